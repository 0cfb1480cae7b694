/-! a peer, on both sides at once -/
def ro (M : Mem) (p c pl : Nat) : Nat := c - 1 - odK (mdl M p) c pl
theorem ro_lt {M : Mem} {p c pl : Nat} (h : pl < c) : ro M p c pl < c ∧ 8 * p + (c - 1 - ro M p c pl) = mOk M p c pl := by
  have := (odK_spec (d := mdl M p) h).2.1
  unfold ro mOk
  omega
theorem nowV_b {d : Int64} {a u : Nat} (hd : 0 ≤ d.toInt ∧ d.toInt ≤ 2097152) (ha : a ≤ u) (hu : u ≤ 2097152) : 0 ≤ (nowV d (nI a) (nI u)).toInt ∧ (nowV d (nI a) (nI u)).toInt ≤ 68719476736 := by
  have e : nI u - nI a = nI (u - a) := pk_sub ha
  have e1 : (lN (u - a)).toInt = ((u - a : Nat) : Int) := pk_lT (by omega)
  have e0 : (64424 : Int64).toInt = 64424 := by decide
  have e2 : (64424 * (nI (u - a)).toInt64 : Int64).toInt = 64424 * ((u - a : Nat) : Int) := by
    rw [nI_l (by omega), l_mul (by rw [e1, e0]; omega) (by rw [e1, e0]; omega), e1, e0]
  have e3 : (d + 64424 * (nI (u - a)).toInt64).toInt = d.toInt + 64424 * ((u - a : Nat) : Int) := by
    rw [l_add (by rw [e2]; omega) (by rw [e2]; omega), e2]
  have e4 : (68719476736 : Int64).toInt = 68719476736 := by decide
  unfold nowV
  rw [e]
  split
  · omega
  · rename_i h
    rw [Int64.lt_iff_toInt_lt, e4, e3] at h
    rw [e3]
    omega
theorem mx14_int (x : Int64) : 16384 ≤ (mx14 x).toInt ∧ (x.toInt ≤ (mx14 x).toInt) ∧ ((mx14 x).toInt ≤ 16384 ∨ (mx14 x).toInt = x.toInt) := by
  have e4 : (16384 : Int64).toInt = 16384 := by decide
  unfold mx14
  split
  · rename_i h
    rw [Int64.lt_iff_toInt_lt] at h
    omega
  · rename_i h
    rw [Int64.lt_iff_toInt_lt] at h
    omega
theorem isq_b {a b : Nat} (h : a < b * b) : isq a < b := by
  obtain ⟨g1, g2⟩ := isq_spec a
  by_cases h' : b ≤ isq a
  · have := sq_mono h'
    omega
  · omega
theorem rtL_b {x : Int64} (h0 : 0 ≤ x.toInt) (h : x.toInt < 2 ^ 62) : 0 ≤ (4096 * rtL x).toInt ∧ (4096 * rtL x).toInt < 8796093022208 := by
  have hb : isq x.toInt.toNat < 2147483648 := isq_b (by omega)
  have e1 : (rtL x).toInt = (isq x.toInt.toNat : Int) := pk_lT (by omega)
  have e0 : (4096 : Int64).toInt = 4096 := by decide
  rw [l_mul (by rw [e1, e0]; omega) (by rw [e1, e0]; omega), e1, e0]
  omega
section RO
variable {M : Mem} {u p c : Nat}
theorem R1_ord (r : R1 M u p c) : oOK M p c (ro M p c) := fun pl h => by
  obtain ⟨r1, r2, r3, r4, r5, r6, r7, r8⟩ := r
  have := (ro_lt (M := M) (p := p) h).1
  exact ⟨r7 pl h, by omega⟩
theorem R1_at (r : R1 M u p c) {pl : Nat} (h : pl < c) : (M.2.1 (p + 1, 1) (ro M p c pl) = M.2.1 (0, 31) (mOk M p c pl) ∧ M.2.1 (p + 1, 2) (ro M p c pl) = M.2.1 (0, 32) (mOk M p c pl) ∧ M.2.1 (p + 1, 3) (ro M p c pl) = M.2.1 (0, 33) (mOk M p c pl) ∧ M.1 (p + 1, 4) (ro M p c pl) = M.1 (0, 34) (mOk M p c pl)) ∧ oB (M.2.1 (0, 31) (mOk M p c pl)) ∧ (16384 ≤ (M.2.1 (0, 32) (mOk M p c pl)).toInt ∧ (M.2.1 (0, 32) (mOk M p c pl)).toInt ≤ 68719476736) ∧ (0 ≤ (M.2.1 (0, 33) (mOk M p c pl)).toInt ∧ (M.2.1 (0, 33) (mOk M p c pl)).toInt ≤ 2097152) ∧ ∃ a, a ≤ u ∧ M.1 (0, 34) (mOk M p c pl) = nI a := by
  obtain ⟨r1, r2, r3, r4, r5, r6, r7, r8⟩ := r
  obtain ⟨a, b⟩ := ro_lt (M := M) (p := p) h
  have s := r6 _ a
  unfold RS at s
  rw [b] at s
  obtain ⟨⟨s1, s2, s3, s4⟩, s5, s6, s7, s8⟩ := s
  rw [s1] at s5
  rw [s2] at s6
  rw [s3] at s7
  rw [s4] at s8
  exact ⟨⟨s1, s2, s3, s4⟩, s5, s6, s7, s8⟩
theorem R1_now (r : R1 M u p c) (hu : u ≤ 2097152) (h6 : M.1 MK 6 = nI u) {pl : Nat} (h : pl < c) : cNw M p (nI u) (ro M p c pl) = mNw M (mOk M p c pl) ∧ 0 ≤ (mNw M (mOk M p c pl)).toInt ∧ (mNw M (mOk M p c pl)).toInt ≤ 68719476736 := by
  obtain ⟨⟨s1, s2, s3, s4⟩, s5, s6, s7, a, ha, s8⟩ := R1_at r h
  unfold cNw mNw
  rw [s3, s4, h6, s8]
  exact ⟨rfl, nowV_b s7 ha hu⟩
theorem R1_term (r : R1 M u p c) (hu : u ≤ 2097152) (h6 : M.1 MK 6 = nI u) (i : Nat) (hi : i < 8) : shN (if i < c then cNw M p (nI u) (ro M p c i) else 68719476736) i = (if i < c then mNw M (mOk M p c i) else 68719476736) / hfN i ∧ 0 ≤ ((if i < c then mNw M (mOk M p c i) else 68719476736) / hfN i).toInt ∧ ((if i < c then mNw M (mOk M p c i) else 68719476736) / hfN i).toInt ≤ 68719476736 := by
  have key : ∀ v : Int64, 0 ≤ v.toInt → v.toInt ≤ 68719476736 → shN v i = v / hfN i ∧ 0 ≤ (v / hfN i).toInt ∧ (v / hfN i).toInt ≤ 68719476736 := fun v h1 h2 => by
    have hp0 : 0 < 2 ^ (i + 1) := Nat.two_pow_pos _
    have hp : 2 ^ (i + 1) ≤ 2 ^ 8 := Nat.pow_le_pow_right (by decide) (by omega)
    have hl : (lN (2 ^ (i + 1))).toInt = ((2 ^ (i + 1) : Nat) : Int) := pk_lT (by omega)
    refine ⟨sh_hf hi h1, ?_⟩
    rw [(hf_lN i hi).1, l_div0 h1 (by rw [hl]; omega), hl]
    have d1 : 0 ≤ v.toInt / ((2 ^ (i + 1) : Nat) : Int) := Int.ediv_nonneg h1 (by omega)
    have d2 : v.toInt / ((2 ^ (i + 1) : Nat) : Int) ≤ v.toInt := Int.ediv_le_self _ h1
    omega
  by_cases h : i < c
  · rw [if_pos h, if_pos h]
    obtain ⟨a, b1, b2⟩ := R1_now r hu h6 h
    rw [a]
    exact key _ b1 b2
  · rw [if_neg h, if_neg h]
    exact key _ (by decide) (by decide)
theorem sm_b2 {f : Nat → Int64} : ∀ n, n ≤ 8 → (∀ i, i < n → 0 ≤ (f i).toInt ∧ (f i).toInt ≤ 68719476736) → 0 ≤ (smL f n).toInt ∧ (smL f n).toInt ≤ n * 68719476736
  | 0, _, _ => by show 0 ≤ (0 : Int64).toInt ∧ (0 : Int64).toInt ≤ _; rw [Int64.toInt_zero]; omega
  | n + 1, hn, h => by
    obtain ⟨h1, h2⟩ := sm_b2 n (by omega) (fun i hi => h i (by omega))
    obtain ⟨h3, h4⟩ := h n (by omega)
    rw [smL, l_add (by omega) (by omega)]
    omega
theorem R1_ds (r : R1 M u p c) (hu : u ≤ 2097152) (h6 : M.1 MK 6 = nI u) : cDs M p c (ro M p c) (nI u) = mDs M p c ∧ 0 ≤ (mDs M p c).toInt ∧ (mDs M p c).toInt ≤ 549755813888 := by
  refine ⟨smL_congr 8 (fun i hi => (R1_term r hu h6 i hi).1), ?_⟩
  have := sm_b2 (f := fun i => (if i < c then mNw M (mOk M p c i) else 68719476736) / hfN i) 8 (by decide) (fun i hi => (R1_term r hu h6 i hi).2)
  unfold mDs
  exact ⟨this.1, by omega⟩
theorem R1_js (r : R1 M u p c) (h1 : 1 < c) : 0 ≤ (mJs M p c / lN (c - 1)).toInt ∧ (mJs M p c / lN (c - 1)).toInt < 2 ^ 62 := by
  have hc : c ≤ 8 := r.1.1
  refine div_b ?_ (by omega) (by omega)
  have := sm_b (f := fun j => sqL (M.2.1 (0, 31) (mOk M p c (j + 1)) - mOf M p c)) (c - 1) (by omega) (fun i hi => sqL_b (R1_at r (pl := i + 1) (by omega)).2.1 (R1_at r (pl := 0) (by omega)).2.1)
  unfold mJs
  exact ⟨this.1, by omega⟩
theorem R1_ji (r : R1 M u p c) : 16384 ≤ (mJi M p c).toInt ∧ (mJi M p c).toInt < 8796093022208 := by
  have hz : (0 : Int64).toInt = 0 := by decide
  have hj : 0 ≤ (jiV c (mJs M p c)).toInt ∧ (jiV c (mJs M p c)).toInt < 8796093022208 := by
    unfold jiV
    split
    · rename_i h
      obtain ⟨a, b⟩ := R1_js r h
      exact rtL_b a b
    · omega
  have := mx14_int (jiV c (mJs M p c))
  unfold mJi
  omega
theorem R1_dt (r : R1 M u p c) (hu : u ≤ 2097152) (h6 : M.1 MK 6 = nI u) (h0 : 0 < c) : cDt M p c (ro M p c) (nI u) = mDt M p c ∧ 24576 ≤ (mDt M p c).toInt ∧ (mDt M p c).toInt < 2 ^ 52 := by
  obtain ⟨e1, b1, b2⟩ := R1_ds r hu h6
  obtain ⟨⟨s1, s2, s3, s4⟩, s5, s6, s7, s8⟩ := R1_at r h0
  obtain ⟨j1, j2⟩ := R1_ji r
  obtain ⟨r1, ⟨q1, q2, q3, q4, q5⟩, r3, r4, ⟨⟨r5, r5a⟩, r5b, r5c⟩, r6, r7, r8⟩ := r
  have hde : (mDe M p c).toInt = (M.2.1 (0, 32) (mOk M p c 0)).toInt := rfl
  refine ⟨?_, ?_⟩
  · unfold cDt mDt
    rw [e1, s2, q3, q4, r8 h0]
    rfl
  · unfold mDt dsV
    have a1 : (M.2.1 (0, 27) p + mDe M p c).toInt = (M.2.1 (0, 27) p).toInt + (mDe M p c).toInt := l_add (by omega) (by omega)
    obtain ⟨m1, m2, m3⟩ := mx14_int (M.2.1 (0, 27) p + mDe M p c)
    have t2 : (2 : Int64).toInt = 2 := by decide
    have a2 : (mx14 (M.2.1 (0, 27) p + mDe M p c) / 2).toInt = (mx14 (M.2.1 (0, 27) p + mDe M p c)).toInt / 2 := by
      rw [l_div0 (by omega) (by decide), t2]
    have a3 := l_add (a := mx14 (M.2.1 (0, 27) p + mDe M p c) / 2) (b := M.2.1 (0, 28) p) (by omega) (by omega)
    have a4 := l_add (a := mx14 (M.2.1 (0, 27) p + mDe M p c) / 2 + M.2.1 (0, 28) p) (b := mDs M p c) (by omega) (by omega)
    have a5 := l_add (a := mx14 (M.2.1 (0, 27) p + mDe M p c) / 2 + M.2.1 (0, 28) p + mDs M p c) (b := mJi M p c) (by omega) (by omega)
    rw [a5]
    omega
theorem R1_pe (r : R1 M u p c) (hu : u ≤ 2097152) (h1 : M.1 TPK 1 = nI u) (h6 : M.1 MK 6 = nI u) (w : Nat) (h0 : 2 ≤ w → w ≤ 6 → 0 < c) (hw : w ≤ 9) : peC M p c (ro M p c) w = peM M p c w := by
  have r0 := r
  obtain ⟨⟨_, n1, n2⟩, ⟨q1, q2, q3, q4, q5⟩, ⟨_, _, r3, r3a⟩, ⟨_, _, r4, r4a⟩, _, r6, r7, r8⟩ := r
  match w, h0, hw with
  | 0, _, _ => exact q1
  | 1, _, _ => exact q2
  | 2, h0, _ => exact (R1_at r0 (h0 (by omega) (by omega))).1.1
  | 3, h0, _ => exact (R1_at r0 (h0 (by omega) (by omega))).1.2.1
  | 4, _, _ => 
    show cDs M p c (ro M p c) (M.1 TPK 1) = _
    rw [h1]
    exact (R1_ds r0 hu h6).1
  | 5, h0, _ => exact r8 (h0 (by omega) (by omega))
  | 6, h0, _ =>
    show cDt M p c (ro M p c) (M.1 TPK 1) = _
    rw [h1]
    exact (R1_dt r0 hu h6 (h0 (by omega) (by omega))).1
  | 7, _, _ =>
    show (M.1 (PEK p) 6).toInt64 = (M.1 (0, 29) p).toInt64
    rw [n1, n2]
  | 8, _, _ =>
    show (M.1 (PEK p) 2).toInt64 = (M.1 (0, 25) p).toInt64
    rw [r3, r3a]
  | 9, _, _ =>
    show (M.1 (PEK p) 3).toInt64 = (M.1 (0, 26) p).toInt64
    rw [r4, r4a]
theorem R1_sa (r : R1 M u p c) (hu : u ≤ 2097152) (h1 : M.1 TPK 1 = nI u) (h6 : M.1 MK 6 = nI u) (i : Nat) (hi : i < c) (w : Nat) (hw : w ≤ 2) : saC M p (ro M p c i) w = saM M (mOk M p c i) w := by
  match w, hw with
  | 0, _ => exact (R1_at r hi).1.1
  | 1, _ => exact (R1_at r hi).1.2.1
  | 2, _ =>
    show cNw M p (M.1 TPK 1) (ro M p c i) = _
    rw [h1]
    exact (R1_now r hu h6 hi).1
end RO
section S5
variable {G : GG} {l : Launch} {M : Mem} {t : Nat}
theorem sim_peer (r : Rel M t) (ht : t ≤ 512) (d w : Int32) : SimL G l t M m_LW_peer [vR (some TKK), vI d, vI w, vR (some OK_)] m_MO_peer [vR (some MK), vI d, vI w] := by
  have r0 := r
  obtain ⟨⟨hM, hx⟩, ⟨n0, m, rt⟩, ⟨u, ld, q, ha, rc, cn, rp⟩, rx⟩ := r
  obtain ⟨⟨c1, c2, c3, c4, c5, c6⟩, ⟨c7, c8, c9, c10, c11, c12⟩, c13, c14, c15, c16⟩ := rc
  by_cases h : d < 0 ∨ 8 ≤ d
  · exact ⟨1, 0, M, sI M MK 0 1, 1, 6, lw_peer_2 d w (pm_peer_x2 hM d w h), mo_peer_x1 hM d w h, by simp [sI], bad1 (by decide), sN_code.rel (by omega) r0, by omega, by omega⟩
  · obtain ⟨j, hj, rfl⟩ := p_rng h
    have r1 := rp j hj
    by_cases hw : w < 0 ∨ 9 < w
    · exact ⟨2, 0, M, _, 1, 6, lw_peer_0 _ w (pm_peer_x0 hM j hj w hw), mo_peer_x2 hM j hj w hw, by simp [sI], bad1 (by decide), sN_code.rel (by omega) r0, by omega, by omega⟩
    · obtain ⟨k, _, k9, rfl⟩ := i_rng 0 9 (by decide) (by decide) (fun z => hw (Or.inl z)) (fun z => hw (Or.inr z))
      by_cases hc : (2 ≤ k ∧ k ≤ 6) ∧ cn j = 0
      · have e1 : M.1 (PEK j) 6 = 0 := by rw [r1.1.2.1, hc.2]; rfl
        have e2 : M.1 (0, 29) j = 0 := by rw [r1.1.2.2, hc.2]; rfl
        exact ⟨3, 0, M, _, 1, 6, lw_peer_1 _ _ (pm_peer_x1 hM j hj k hc.1.1 hc.1.2 e1), mo_peer_x3 hM j hj k hc.1.1 hc.1.2 e2, by simp [sI], bad1 (by decide), sN_code.rel (by omega) r0, by omega, by omega⟩
      · have h0 : 2 ≤ k → k ≤ 6 → 0 < cn j := fun a b => by omega
        have p1 := lw_peer (G := G) (l := l) (nI j) (nI k) _ (pm_peer hM j (cn j) hj r1.1.1 r1.1.2.1 _ (R1_ord r1) k k9 h0)
        rw [R1_pe r1 (by omega) c2 c3 k h0 k9] at p1
        have s1 : sN M (sL M OK_ 0 (peM M j (cn j) k)) := sN_out
        have hr := s1.rel (Nat.le_refl t) r0
        have e3 : ∀ x, peM (sL M OK_ 0 x) j (cn j) k = peM M j (cn j) k := fun x => rfl
        have p2 := mo_peer (G := G) (l := l) (M := sL M OK_ 0 (peM M j (cn j) k)) hM j (cn j) hj r1.1.1 r1.1.2.2 (fun z => (R1_js r1 z).1) k k9 h0
        rw [e3] at p2
        exact ⟨0, _, _, _, 0, 0, p1, p2, by simp [sI], fun _ => by simp [sI, sL], sN_code.rel (by omega) hr, by omega, by omega⟩
theorem sim_sample (r : Rel M t) (ht : t ≤ 512) (d i w : Int32) : SimL G l t M m_LW_sample [vR (some TKK), vI d, vI i, vI w, vR (some OK_)] m_MO_sample [vR (some MK), vI d, vI i, vI w] := by
  have r0 := r
  obtain ⟨⟨hM, hx⟩, ⟨n0, m, rt⟩, ⟨u, ld, q, ha, rc, cn, rp⟩, rx⟩ := r
  obtain ⟨⟨c1, c2, c3, c4, c5, c6⟩, ⟨c7, c8, c9, c10, c11, c12⟩, c13, c14, c15, c16⟩ := rc
  by_cases h : d < 0 ∨ 8 ≤ d
  · exact ⟨1, 0, M, sI M MK 0 1, 1, 6, lw_sample_2 d i w (pm_sample_x2 hM d i w h), mo_sample_1 hM d i w (Or.inl h), by simp [sI], bad1 (by decide), sN_code.rel (by omega) r0, by omega, by omega⟩
  · obtain ⟨j, hj, rfl⟩ := p_rng h
    have r1 := rp j hj
    by_cases hi : i < 0 ∨ nI (cn j) ≤ i
    · exact ⟨1, 0, M, sI M MK 0 1, 1, 6, lw_sample_2 _ i w (pm_sample_x2i hM j (cn j) hj r1.1.2.1 i w hi), mo_sample_1 hM _ i w (Or.inr ⟨j, cn j, hj, r1.1.1, rfl, r1.1.2.2, hi⟩), by simp [sI], bad1 (by decide), sN_code.rel (by omega) r0, by omega, by omega⟩
    · have hc8 := r1.1.1
      have hi1 : ¬ i < 0 := fun z => hi (Or.inl z)
      have hi2 : ¬ nI (cn j) ≤ i := fun z => hi (Or.inr z)
      rw [Int32.lt_iff_toInt_lt, Int32.toInt_zero] at hi1
      rw [Int32.le_iff_toInt_le, nI_toInt (by omega)] at hi2
      have ei : i = nI i.toInt.toNat := by
        apply Int32.toInt_inj.mp
        rw [nI_toInt (by omega)]
        omega
      have hk : i.toInt.toNat < cn j := by omega
      rw [ei]
      generalize i.toInt.toNat = k at hk
      by_cases hw : w < 0 ∨ 2 < w
      · have hw2 : w.toInt < 0 ∨ 2 < w.toInt := by
          rw [Int32.lt_iff_toInt_lt, Int32.lt_iff_toInt_lt] at hw
          exact hw
        exact ⟨2, 0, M, _, 1, 6, lw_sample_0 _ _ w (pm_sample_x0 hM j (cn j) hj hc8 r1.1.2.1 k hk w hw2), mo_sample_2 hM j (cn j) k hj hc8 r1.1.2.2 hk w hw, by simp [sI], bad1 (by decide), sN_code.rel (by omega) r0, by omega, by omega⟩
      · obtain ⟨v, _, v2, rfl⟩ := i_rng 0 2 (by decide) (by decide) (fun z => hw (Or.inl z)) (fun z => hw (Or.inr z))
        have p1 := lw_sample (G := G) (l := l) (nI j) (nI k) (nI v) _ (pm_sample hM j (cn j) hj hc8 r1.1.2.1 _ (R1_ord r1) k hk v v2)
        rw [R1_sa r1 (by omega) c2 c3 k hk v v2] at p1
        have s1 : sN M (sL M OK_ 0 (saM M (mOk M j (cn j) k) v)) := sN_out
        have hr := s1.rel (Nat.le_refl t) r0
        have e3 : ∀ x, saM (sL M OK_ 0 x) (mOk (sL M OK_ 0 x) j (cn j) k) v = saM M (mOk M j (cn j) k) v := fun x => rfl
        have p2 := mo_sample (G := G) (l := l) (M := sL M OK_ 0 (saM M (mOk M j (cn j) k) v)) hM j (cn j) k hj hc8 r1.1.2.2 hk v v2
        rw [e3] at p2
        exact ⟨0, _, _, _, 0, 0, p1, p2, by simp [sI], fun _ => by simp [sI, sL], sN_code.rel (by omega) hr, by omega, by omega⟩
end S5
