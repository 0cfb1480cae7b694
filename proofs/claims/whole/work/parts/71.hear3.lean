/-! hear: a choice is made -/
section HE3
variable {G : GG} {l : Launch}
theorem mix_cDt {A B : Mem} {p c : Nat} {o : Nat → Nat} {u : Int32} : cDt (mix A B) p c o u = cDt A p c o u := rfl
theorem mix_mDt {A B : Mem} {p c : Nat} : mDt (mix A B) p c = mDt B p c := rfl
theorem stC_f {A : Mem} {off : Int64} {k : KK} (h : k ≠ TPK) : (stC A off).1 k = A.1 k ∧ (stC A off).2.1 k = A.2.1 k := by
  constructor
  · funext i; simp [stC, mkL, sI, sL, h]
  · funext i; simp [stC, mkL, sI, sL, h]
theorem slC_f {A : Mem} {off jit : Int64} {k : KK} (h : k ≠ TPK) : (slC A off jit).1 k = A.1 k ∧ (slC A off jit).2.1 k = A.2.1 k := by
  unfold slC
  obtain ⟨_, g2, g3⟩ := jg_c (X := mkL (sL (sL A TPK 3 (cl2 (rtC (A.2.1 TPK 3) off (snc A) (A.1 TPK 5)))) TPK 4 off)) (b := if ab off < 4 * jit then 1 else 0)
  rw [g3 k h, g2]
  constructor
  · funext i; simp [mkL, sI, sL, h]
  · funext i; simp [mkL, sI, sL, h]
theorem slC_r {A : Mem} {off jit : Int64} : (slC A off jit).2.2 = A.2.2 := by
  unfold slC
  rw [jg_c.2.1]
  rfl
theorem slM_f {B : Mem} {q : Nat} (hq : q ≤ 10) (h33 : B.1 MK 33 = nI q) : (slM B).2.2 = B.2.2 ∧ (∀ k, k ≠ MK → (slM B).1 k = B.1 k ∧ (slM B).2.1 k = B.2.1 k) ∧ (∀ j, j < 33 → (slM B).1 MK j = B.1 MK j) ∧ ∀ j, 10 ≤ j → (slM B).2.1 MK j = B.2.1 MK j := by
  unfold slM
  generalize rtM (B.2.1 MK 8) (B.2.1 MK 26) (uM (B.1 MK 36) (B.1 MK 6 - B.1 MK 37)) (B.1 MK 33) = R
  obtain ⟨g1, g2, g3⟩ := tr_m (X := sL (sL (sL B MK 8 R) MK 8 (cl3 R)) MK 9 (B.2.1 MK 26)) (b := if ab (B.2.1 MK 26) < 4 * B.2.1 MK 27 then 1 else 0) hq h33
  refine ⟨?_, fun k hk => ⟨?_, ?_⟩, fun j hj => ?_, fun j hj => ?_⟩
  · show (trM _ _).2.2 = _
    rw [g2]
    rfl
  · funext i
    have := congrFun (g3 k hk) i
    simp [mkM, sI, hk]
    rw [this]
    rfl
  · show (trM _ _).2.1 k = _
    rw [g2]
    funext i
    simp [sL, hk]
  · have := congrFun g1 j
    simp [mkM, sI, show ¬ j = 36 by omega, show ¬ j = 37 by omega]
    rw [this]
    simp [up, show ¬ j = 33 by omega, show ¬ j = 34 by omega, sL]
  · show (trM _ _).2.1 MK j = _
    rw [g2]
    simp [sL, show ¬ j = 8 by omega, show ¬ j = 9 by omega]
theorem stM_f {B : Mem} {o : Int64} : (stM B o).2.2 = B.2.2 ∧ (∀ k, k ≠ MK → k ≠ (0, 29) → k ≠ (0, 23) → (stM B o).1 k = B.1 k ∧ (stM B o).2.1 k = B.2.1 k) ∧ (∀ j, j < 33 → (stM B o).1 MK j = B.1 MK j) ∧ (∀ j, 10 ≤ j → (stM B o).2.1 MK j = B.2.1 MK j) ∧ (stM B o).1 (0, 29) = (fgM B 8).1 (0, 29) ∧ (stM B o).2.1 (0, 23) = (fgM B 8).2.1 (0, 23) := by
  refine ⟨rfl, fun k h1 h2 h3 => ⟨?_, ?_⟩, fun j hj => ?_, fun j hj => ?_, ?_, ?_⟩
  · funext i; simp [stM, mkM, fgM, sI, sL, h1, h2]
  · funext i; simp [stM, mkM, fgM, sI, sL, h1, h3]
  · simp [stM, mkM, fgM, sI, sL, show ¬ j = 36 by omega, show ¬ j = 37 by omega, show ¬ j = 35 by omega]
  · simp [stM, mkM, fgM, sI, sL, show ¬ j = 5 by omega, show ¬ j = 8 by omega, show ¬ j = 9 by omega]
  · funext i; simp [stM, mkM, fgM, sI, sL]
  · funext i; simp [stM, mkM, fgM, sI, sL]
theorem FC_kp {M N : Mem} (h : FC M N) : kp M N := ⟨h.1, fun i a => h.2 (0, i) (fun q => by have := q.2; simp at this; omega) (fun e => by injection e with _ e; omega)⟩
theorem fgC_f {A : Mem} {n i : Nat} : (fgC A n).1 (0, i) = A.1 (0, i) ∧ (fgC A n).2.1 (0, i) = A.2.1 (0, i) := by
  constructor
  · funext k; simp [fgC]
  · funext k; simp [fgC]
theorem hear_2 {M M2 K2 : Mem} {t n0 m u ld q j : Nat} {cn1 : Nat → Nat} (hM : M.2.2.1 = rf) (hx : M.2.2.2 = 79) (ht : t ≤ 512) (rt : RT M n0 m) (hu : u ≤ 4096 * t) (hld : ld ≤ t) (rc : RC M u ld q) (rx : RX M)
    (k2 : kp M M2) (hT1 : M2.1 TPK = M.1 TPK) (hT2 : M2.2.1 TPK = M.2.1 TPK) (hH1 : M2.1 CHK = M.1 CHK) (hH2 : M2.2.1 CHK = M.2.1 CHK)
    (kk1 : K2.1 (0, 21) = M.1 (0, 21)) (kk2 : K2.1 (0, 22) = M.1 (0, 22)) (kk3 : K2.1 MK = M.1 MK) (kk4 : K2.2.1 MK = M.2.1 MK)
    (hA : ∀ p, p < 8 → R1 (mix M2 K2) u p (cn1 p))
    (hC0 : ∀ M3, PM G l m_CH_choose [vR (some CHK), vR (some (0, 6)), vI (nI u)] M2 (rI 0) M3 0 0 → PM G l m_TK_hear [vR (some TKK), vI (nI j)] M (rI 0) M3 0 0)
    (hCl : ∀ M3 M4, M3.2.2.1 = rf → PM G l m_CH_choose [vR (some CHK), vR (some (0, 6)), vI (nI u)] M2 (rI 1) M3 0 0 → PM G l m_TP_lead [vR (some TPK), vL (M3.2.1 CHK 5), vL (M3.2.1 CHK 6)] M3 (rI 0) M4 0 0 → PM G l m_TK_hear [vR (some TKK), vI (nI j)] M (rI 0) M4 0 0)
    (hCs : ∀ M3 M4, M3.2.2.1 = rf → PM G l m_CH_choose [vR (some CHK), vR (some (0, 6)), vI (nI u)] M2 (rI 1) M3 0 0 → PM G l m_TP_lead [vR (some TPK), vL (M3.2.1 CHK 5), vL (M3.2.1 CHK 6)] M3 (rI 1) M4 0 0 → M4.2.2.1 = rf → PM G l m_TK_hear [vR (some TKK), vI (nI j)] M (rI 0) (fgC M4 8) 0 0)
    (hMo : ∀ N, N.2.2 = M.2.2 → mE M N → ∃ B2, mE K2 B2 ∧ B2.2.2 = N.2.2 ∧ cQ N B2 ∧ B2.1 MK 0 = 0 ∧ B2.2.1 OK_ = N.2.1 OK_ ∧ ∀ M3, PM G l m_MO_update [vR (some MK)] B2 rV M3 0 0 → PM G l m_MO_hear [vR (some MK), vI (nI j)] N (rI 0) M3 0 0) :
    SimI G l t M m_LW_hear [vR (some TKK), vI (nI j), vR (some OK_)] m_MO_hear [vR (some MK), vI (nI j)] := by
  have rc0 := rc
  obtain ⟨⟨c1, c2, c3, c4, c5, c6⟩, ⟨c7, c8, c9, c10, c11, c12⟩, c13, c14, c15, c16⟩ := rc
  have hu2 : u ≤ 2097152 := by omega
  have h6 : K2.1 MK 6 = nI u := by rw [kk3]; exact c3
  have hM2 : M2.2.2.1 = rf := by rw [k2.1]; exact hM
  obtain ⟨V, hV⟩ : ∃ V, V = mVV K2 cn1 := ⟨_, rfl⟩
  obtain ⟨os, hos⟩ : ∃ os, os = fun p => ro (mix M2 K2) p (cn1 p) := ⟨_, rfl⟩
  have hPE : PEs M2 cn1 os := fun p hp => by
    rw [hos]
    exact ⟨(hA p hp).1.1, (hA p hp).1.2.1, R1_ord (hA p hp)⟩
  have hMP : MPs K2 cn1 := fun p hp => ⟨(hA p hp).1.1, (hA p hp).1.2.2, fun h1 => (R1_js (hA p hp) h1).1⟩
  have hs : ∀ p, p < 8 → sV V p = M2.1 (PEK p) 3 := fun p hp => by
    obtain ⟨s, _, a, b⟩ := (hA p hp).2.2.2.1
    rw [hV]
    exact b.trans a.symm
  have hq : ∀ p, p < 8 → 0 < cn1 p → oV V p = M2.2.1 (p + 1, 1) (os p 0) ∧ dV V p = cDt M2 p (cn1 p) (os p) (nI u) ∧ jV V p = M2.2.1 (PEK p) 7 ∧ oB (oV V p) ∧ 24576 ≤ (dV V p).toInt := fun p hp h0 => by
    rw [hV, hos]
    have a := R1_at (hA p hp) h0
    have b := R1_dt (hA p hp) hu2 h6 h0
    have c := (hA p hp).2.2.2.2.2.2.2 h0
    exact ⟨a.1.1.symm, b.1.symm, c.symm, a.2.1, b.2.1⟩
  have hcd : ∀ p, p < 8 → mcd K2 cn1 V p = cnd M2 cn1 (cVV M2 cn1 os (nI u)) p := fun p hp => by
    unfold mcd cnd
    by_cases h0 : 0 < cn1 p
    · obtain ⟨s, _, a, b⟩ := (hA p hp).2.2.1
      have a' : M2.1 (PEK p) 2 = nI s := a
      have b' : K2.1 (0, 25) p = nI s := b
      rw [a', b', (hq p hp h0).2.1]
      rfl
    · simp [h0]
  obtain ⟨ns, hns⟩ : ∃ ns, ns = rgf (mcd K2 cn1 V) 8 := ⟨_, rfl⟩
  have hns2 : ns = (List.range 8).filter (cnd M2 cn1 (cVV M2 cn1 os (nI u))) := by
    rw [hns]
    exact List.filter_congr (fun x hx => hcd x (List.mem_range.mp hx))
  have hmem : ∀ x, x ∈ ns → x < 8 ∧ 0 < cn1 x ∧ (dV V x).toInt < 6442450944 := fun x hx => by
    rw [hns] at hx
    obtain ⟨h1, h2⟩ := List.mem_filter.mp hx
    unfold mcd at h2
    simp only [Bool.and_eq_true, decide_eq_true_eq] at h2
    refine ⟨List.mem_range.mp h1, h2.1, ?_⟩
    have := h2.2.2
    rw [Int64.lt_iff_toInt_lt] at this
    exact this
  have hvB : vB V ns := fun x hx => by
    obtain ⟨a, b, c⟩ := hmem x hx
    obtain ⟨_, _, _, d, e⟩ := hq x a b
    exact ⟨d, e, c⟩
  have hVa : vAg V (cVV M2 cn1 os (nI u)) ns := fun x hx => by
    obtain ⟨a, b, c⟩ := hmem x hx
    obtain ⟨d, e, f, _⟩ := hq x a b
    exact ⟨hs x a, d, e, f⟩
  have hno : ∀ g, g ≤ ns.length → ¬ ag V ns g → ∀ lo hi, ¬ mAg V ns g lo hi := fun g hg h lo hi z => by
    obtain ⟨e1, e2⟩ := ag_uni hvB z
    rw [e1, e2] at z
    exact h ((ag_iff hvB g hg).mpr z)
  have k33 : ∀ B : Mem, mE K2 B → B.1 MK 33 = nI q := fun B h => by rw [h.2.1 33 (by decide) (by decide), kk3]; exact c8
  by_cases hag : ∃ f, 2 * f < ns.length ∧ ag V ns f
  · obtain ⟨f0, hf0⟩ := hag
    obtain ⟨f, ⟨hf1, hf2⟩, hfm⟩ := min_ex (P := fun f => 2 * f < ns.length ∧ ag V ns f) f0 hf0
    have hmin : ∀ g, g < f → ¬ ag V ns g := fun g hg z => hfm g hg ⟨by omega, z⟩
    obtain ⟨L, hL⟩ : ∃ L, L = agL V ns (ns.length - f) ns := ⟨_, rfl⟩
    obtain ⟨H, hH⟩ : ∃ H, H = agH V ns (ns.length - f) ns := ⟨_, rfl⟩
    obtain ⟨n2, hn2⟩ : ∃ n2, n2 = ns.filter (inO V L H) := ⟨_, rfl⟩
    have hB : ∀ x ∈ ns, oB (oV V x) := fun x hx => (hvB x hx).1
    have hD : ∀ x ∈ ns, 0 < dV V x := fun x hx => by
      have := (hvB x hx).2.1
      rw [Int64.lt_iff_toInt_lt, Int64.toInt_zero]
      omega
    have hMn : ∀ t : List Nat, t.length ≤ 8 → 0 < t.length → (∀ x ∈ t, x ∈ ns) → 0 < mnW V t ∧ oB (mnO V t) := fun t h8 h0 hs => mean_ok h8 h0 (fun x hx => (hvB x (hs x hx)).1) (fun x hx => (hvB x (hs x hx)).2)
    obtain ⟨M3, T, p1, p2, p3, p4, p5, p6, p7, p8⟩ := choose_y (G := G) (l := l) hM2 cn1 os (nI u) hPE V ns hns2 hVa f hf1 hf2 hmin L H hL hH n2 hn2 hB hD hMn
    have hM3 : M3.2.2.1 = rf := by rw [p5.1]; exact hM2
    have hn0 : 0 < n2.length := by
      have := hf2.2
      rw [← hL, ← hH, List.countP_eq_length_filter, ← hn2] at this
      omega
    have ha : mAg V ns f L H := by
      rw [hL, hH]
      exact (ag_iff hvB f (by omega)).mp hf2
    have hst : ∃ s, s ≤ 16 ∧ sV V (atL (thN V 8 T) 0) + 1 = nI s := by
      have h8 : atL (thN V 8 T) 0 < 8 := by
        have h0 : 0 < (thN V 8 T).length := th_pos 8 T p4
        have e := atL_get h0
        have hm := th_sub 8 T _ (List.mem_of_getElem? e)
        have := (p2 _).mp hm
        rw [hn2] at this
        exact (hmem _ (List.mem_filter.mp this).1).1
      obtain ⟨s, h15, a, b⟩ := (hA _ h8).2.2.2.1
      refine ⟨s + 1, by omega, ?_⟩
      have a' : M2.1 (PEK (atL (thN V 8 T) 0)) 3 = nI s := a
      rw [hs _ h8, a', nI_1]
    have upd : ∀ B2, mE K2 B2 → B2.2.2.1 = rf → ∃ N, N.2.2 = B2.2.2 ∧ (∀ k, k ≠ MK → k ≠ (0, 35) → N.1 k = B2.1 k ∧ N.2.1 k = B2.2.1 k) ∧ (∀ j, j ≠ 32 → N.1 MK j = upI (B2.1 MK) (nI (msk ns)) (nI (msk n2)) (nI (msk (thN V 8 T))) (sV V (atL (thN V 8 T) 0) + 1) j) ∧ N.2.1 MK = upL (B2.2.1 MK) L H (mnO V (thN V 8 T)) (cjV V (thN V 8 T)) ∧ ∀ M', PM G l m_MO_lead [vR (some MK)] N rV M' 0 0 → PM G l m_MO_update [vR (some MK)] B2 rV M' 0 0 := fun B2 hE hB2 => by
      obtain ⟨N, T', w1, w2, w3, w4, w5, w6, w7⟩ := update_y (G := G) (l := l) (M := B2) hB2 (mE_ps hE hMP) V (by rw [mE_VV hE]; exact hV) (mcd B2 cn1 V) rfl ns (by rw [mE_cd hE]; exact hns) f hf1 L H ha (fun g hg => hno g (by omega) (hmin g hg)) n2 hn2 hn0 hB hD hMn
      have : T' = T := srt_uni w1 p1 (fun y => (w2 y).trans (p2 y).symm)
      subst this
      exact ⟨N, w3, w4, w5, w6, w7⟩
    generalize sV V (atL (thN V 8 T) 0) + 1 = st at *
    generalize hoff : mnO V (thN V 8 T) = off at *
    generalize cjV V (thN V 8 T) = jit at *
    generalize nI (msk ns) = m1 at *
    generalize nI (msk n2) = m2 at *
    generalize nI (msk (thN V 8 T)) = m3 at *
    have hT3 : M3.1 TPK = M.1 TPK ∧ M3.2.1 TPK = M.2.1 TPK := by
      have := p5.2 TPK (fun z => by have := z.2.1; simp at this) (by decide)
      rw [this.1, this.2]
      exact ⟨hT1, hT2⟩
    have k3 : kp M M3 := k2.t (FC_kp p5)
    have pe3 : ∀ q i, M3.1 (q + 1, i) = M2.1 (q + 1, i) ∧ M3.2.1 (q + 1, i) = M2.2.1 (q + 1, i) := fun q i => p5.2 (q + 1, i) (fun z => by have := z.1; simp at this) (fun e => by injection e with e; omega)
    have o5 : M3.2.1 CHK 5 = off := by rw [p7]; rfl
    have o6 : M3.2.1 CHK 6 = jit := by rw [p7]; rfl
    rw [hH1] at p6
    rw [hH2] at p7
    have hld2 : ld < 2 ^ 30 := by omega
    have fin : ∀ (A B2 B3 N : Mem), kp M A → mE K2 B2 → B2.2.2 = M.2.2 → cQ (sL A OK_ 0 (0 : Int32).toInt64) B2 → A.1 CHK = M3.1 CHK → A.2.1 CHK = M3.2.1 CHK → (∀ k, k ≠ MK → k ≠ (0, 35) → B3.1 k = B2.1 k ∧ B3.2.1 k = B2.2.1 k) → (∀ j, j ≠ 32 → B3.1 MK j = upI (B2.1 MK) m1 m2 m3 st j) → B3.2.1 MK = upL (B2.2.1 MK) L H off jit → N.2.2 = M.2.2 → (∀ i, i < 20 → N.1 (0, i) = B3.1 (0, i) ∧ N.2.1 (0, i) = B3.2.1 (0, i)) → N.1 (0, 21) = B3.1 (0, 21) → N.1 (0, 22) = B3.1 (0, 22) → (∀ j, j < 32 → N.1 MK j = B3.1 MK j) → (∀ j, 10 ≤ j → N.2.1 MK j = B3.2.1 MK j) → (∃ ld' q', ld' ≤ t + 1 ∧ RC N u ld' q') → (∃ cn : Nat → Nat, ∀ q, q < 8 → R1 N u q (cn q)) → Rel N (t + 1) := by
      intro A B2 B3 N kA hE h22 hcQ hc1 hc2 g1 g2 g3 n22 n20 n21 n23 nMi nMl nRC nR1
      have low : ∀ i, i < 20 → N.1 (0, i) = A.1 (0, i) ∧ N.2.1 (0, i) = A.2.1 (0, i) := fun i hi => by
        rw [(n20 i hi).1, (n20 i hi).2, (g1 (0, i) (fun e => by injection e with _ e; omega) (fun e => by injection e with _ e; omega)).1, (g1 (0, i) (fun e => by injection e with _ e; omega) (fun e => by injection e with _ e; omega)).2, (hcQ.2 i hi).1, (hcQ.2 i hi).2]
        refine ⟨rfl, ?_⟩
        funext x
        simp [sL, show ¬ i = 40 by omega]
      refine fin_rel hM hx rt hu kA n22 low ?_ ?_ ?_ ?_ nRC nR1 ?_
      · rw [n21, (g1 (0, 21) (by decide) (by decide)).1, (hE.1 21 (by decide) (by decide)).1]; exact kk1
      · rw [n23, (g1 (0, 22) (by decide) (by decide)).1, (hE.1 22 (by decide) (by decide)).1]; exact kk2
      · rw [nMi 2 (by decide), g2 2 (by decide)]
        show B2.1 MK 2 = _
        rw [hE.2.1 2 (by decide) (by decide), kk3]
      · rw [nMi 4 (by decide), g2 4 (by decide)]
        show B2.1 MK 4 = _
        rw [hE.2.1 4 (by decide) (by decide), kk3]
      · exact RX_y (M := M) (f := B2.1 MK) (g := B2.2.1 MK) hst (by rw [(low 7 (by decide)).1, hc1]; exact p6) (by rw [(low 7 (by decide)).2, hc2]; exact p7) (fun j a b => by rw [nMi j (by omega)]; exact g2 j (by omega)) (fun j a b => by rw [nMl j (by omega), g3])
    have scm : ∀ (B2 B3 : Mem), mE K2 B2 → (∀ j, j ≠ 32 → B3.1 MK j = upI (B2.1 MK) m1 m2 m3 st j) → B3.2.1 MK = upL (B2.2.1 MK) L H off jit → sCm M B3 := by
      intro B2 B3 hE g2 g3
      have a : ∀ i, i ≠ 0 → i ≠ 32 → (i < 22 ∨ 28 < i) → B3.1 MK i = M.1 MK i := fun i h1 h2 h3 => by
        rw [g2 i h2]
        unfold upI up
        rw [if_neg (by omega), if_neg (by omega), if_neg (by omega), if_neg (by omega), if_neg (by omega), hE.2.1 i h1 h2, kk3]
      have b : ∀ i, i < 26 → B3.2.1 MK i = M.2.1 MK i := fun i h1 => by
        rw [g3]
        unfold upL up
        rw [if_neg (by omega), if_neg (by omega), if_neg (by omega), if_neg (by omega), hE.2.2, kk4]
      exact ⟨⟨a 6 (by decide) (by decide) (by decide), a 33 (by decide) (by decide) (by decide), a 34 (by decide) (by decide) (by decide), a 35 (by decide) (by decide) (by decide), a 36 (by decide) (by decide) (by decide), a 37 (by decide) (by decide) (by decide)⟩, b 5 (by decide), b 7 (by decide), b 8 (by decide), b 9 (by decide)⟩
    by_cases hbig : 549755813 < ab off
    · have pl := pm_lead_s (G := G) (l := l) (M := M3) off jit hbig
      by_cases hC : M3.1 TPK 7 = -1 ∨ 300 ≤ snc M3
      · rw [if_pos hC, if_pos hC] at pl
        have h1 := hCs M3 (stC M3 off) hM3 p8 (by rw [o5, o6]; exact pl) hM3
        have kA : kp M (fgC (stC M3 off) 8) := ⟨k3.1, fun i a => by
          rw [fgC_f.1, fgC_f.2, (stC_f (k := (0, i)) (fun e => by injection e with _ e; omega)).1, (stC_f (k := (0, i)) (fun e => by injection e with _ e; omega)).2]
          exact k3.2 i a⟩
        obtain ⟨B2, e1, e2, e3, e4, e5, e6⟩ := hMo (sL (fgC (stC M3 off) 8) OK_ 0 (0 : Int32).toInt64) kA.1 kA.mE
        have hB2 : B2.2.2 = M.2.2 := e2.trans kA.1
        obtain ⟨B3, w1, w2, w3, w4, w5⟩ := upd B2 e1 (by rw [hB2]; exact hM)
        have h26 : B3.2.1 MK 26 = off := by rw [w4]; rfl
        have sc := scm B2 B3 e1 w3 w4
        have p2' := mo_lead_s (G := G) (l := l) (M := B3) (by rw [w1, hB2]; exact hM) (by rw [h26]; exact hbig) ((step_iff rc0 hu2 hld2 hT3.1 sc).mp hC)
        rw [h26] at p2'
        obtain ⟨s1, s2, s3, s4, s5, s6⟩ := stM_f (B := B3) (o := off)
        have tpk : B3.1 TPK = (stC M3 off).1 TPK ∧ B3.2.1 TPK = (stC M3 off).2.1 TPK := by
          rw [(w2 TPK (by decide) (by decide)).1, (w2 TPK (by decide) (by decide)).2, (e3.2 5 (by decide)).1, (e3.2 5 (by decide)).2]
          refine ⟨(fgC_f (A := stC M3 off) (n := 8) (i := 5)).1, Eq.trans ?_ (fgC_f (A := stC M3 off) (n := 8) (i := 5)).2⟩
          funext x
          simp [sL]
        refine hear_sim h1 (e6 _ (w5 _ p2')) ?_ ?_ (fin _ B2 B3 _ kA e1 hB2 e3 (by rw [fgC_f.1]; exact (stC_f (by decide)).1) (by rw [fgC_f.2]; exact (stC_f (by decide)).2) w2 w3 w4 (by rw [s1, w1, hB2]) (fun i hi => s2 (0, i) (fun e => by injection e with _ e; omega) (fun e => by injection e with _ e; omega) (fun e => by injection e with _ e; omega)) (s2 _ (by decide) (by decide) (by decide)).1 (s2 _ (by decide) (by decide) (by decide)).1 (fun j h => s3 j (by omega)) s4 ⟨ld + 1, q, by omega, RC_step rc0 hT3.1 hT3.2 sc off tpk.1 tpk.2⟩ ⟨fun _ => 0, fun p hp => ?_⟩)
        · rw [s3 0 (by decide), w3 0 (by decide)]
          exact e4
        · rw [(s2 OK_ (by decide) (by decide) (by decide)).2, (w2 OK_ (by decide) (by decide)).2, e5]
          simp [sL]
        · have hpe : ∀ q i, (stM B3 off).1 (q + 1, i) = (fgC (stC M3 off) 8).1 (q + 1, i) ∧ (stM B3 off).2.1 (q + 1, i) = (fgC (stC M3 off) 8).2.1 (q + 1, i) := fun q i => by
            have x1 := s2 (q + 1, i) (fun e => by injection e with e; omega) (fun e => by injection e with e; omega) (fun e => by injection e with e; omega)
            have x2 := w2 (q + 1, i) (fun e => by injection e with e; omega) (fun e => by injection e with e; omega)
            have x3 := e3.1 q i
            rw [x1.1, x1.2, x2.1, x2.2, x3.1, x3.2]
            refine ⟨rfl, ?_⟩
            funext x
            simp [sL]
          have hm2 : ∀ q i, (fgC (stC M3 off) 8).1 (q + 1, i) = (fgC M2 8).1 (q + 1, i) ∧ (fgC (stC M3 off) 8).2.1 (q + 1, i) = (fgC M2 8).2.1 (q + 1, i) := fun q i => by
            have y1 := stC_f (A := M3) (off := off) (k := (q + 1, i)) (fun e => by injection e with e; omega)
            have y2 := pe3 q i
            constructor
            · funext x
              show ite _ _ _ = ite _ _ _
              rw [y1.1, y2.1]
            · funext x
              show ite _ _ _ = ite _ _ _
              rw [y1.2, y2.2]
          have hmk : ∀ i, 23 ≤ i → i ≤ 34 → B3.1 (0, i) = K2.1 (0, i) ∧ B3.2.1 (0, i) = K2.2.1 (0, i) := fun i a b => by
            have x2 := w2 (0, i) (fun e => by injection e with _ e; omega) (fun e => by injection e with _ e; omega)
            rw [x2.1, x2.2]
            exact e1.1 i (by omega) b
          refine forget_R1 (A := M2) (B := K2) (N := stM B3 off) (cq := cn1 p) hp (hA p hp) (fun q i => ⟨(hpe q i).1.trans (hm2 q i).1, (hpe q i).2.trans (hm2 q i).2⟩) ?_ ?_ ?_
          · rw [s5]
            funext x
            show ite _ _ _ = ite _ _ _
            rw [(hmk 29 (by decide) (by decide)).1]
          · rw [s6]
            funext x
            show ite _ _ _ = ite _ _ _
            rw [(hmk 23 (by decide) (by decide)).2]
          · intro i a b c
            have x1 := s2 (0, i) (fun e => by injection e with _ e; omega) (fun e => by injection e with _ e; omega) (fun e => by injection e with _ e; omega)
            rw [x1.1, x1.2]
            exact hmk i (by omega) (by omega)
      · rw [if_neg hC, if_neg hC] at pl
        have h1 := hCl M3 M3 hM3 p8 (by rw [o5, o6]; exact pl)
        obtain ⟨B2, e1, e2, e3, e4, e5, e6⟩ := hMo (sL M3 OK_ 0 (0 : Int32).toInt64) k3.1 k3.mE
        have hB2 : B2.2.2 = M.2.2 := e2.trans k3.1
        obtain ⟨B3, w1, w2, w3, w4, w5⟩ := upd B2 e1 (by rw [hB2]; exact hM)
        have h26 : B3.2.1 MK 26 = off := by rw [w4]; rfl
        have sc := scm B2 B3 e1 w3 w4
        have nC := fun z => hC ((step_iff rc0 hu2 hld2 hT3.1 sc).mpr z)
        have p2' := mo_lead_n (G := G) (l := l) (M := B3) (by rw [h26]; exact hbig) (Classical.byContradiction fun z => nC (Or.inl (nlt_le z))) (fun z => nC (Or.inr z))
        have tpk : B3.1 TPK = M.1 TPK ∧ B3.2.1 TPK = M.2.1 TPK := by
          rw [(w2 TPK (by decide) (by decide)).1, (w2 TPK (by decide) (by decide)).2, (e3.2 5 (by decide)).1, (e3.2 5 (by decide)).2]
          refine ⟨hT3.1, Eq.trans ?_ hT3.2⟩
          funext x
          simp [sL]
        refine hear_sim h1 (e6 _ (w5 _ p2')) ?_ ?_ (fin M3 B2 B3 B3 k3 e1 hB2 e3 rfl rfl w2 w3 w4 (by rw [w1, hB2]) (fun i hi => ⟨rfl, rfl⟩) rfl rfl (fun j h => rfl) (fun j h => rfl) ⟨ld, q, by omega, RC_c ⟨tpk, sc⟩ rc0⟩ ⟨cn1, fun p hp => ?_⟩)
        · rw [w3 0 (by decide)]
          exact e4
        · rw [(w2 OK_ (by decide) (by decide)).2, e5]
          simp [sL]
        · refine R1_cm2 (A := M2) (B := K2) (fun q i => ?_) (fun i a b => ?_) (hA p hp)
          · have x2 := w2 (q + 1, i) (fun e => by injection e with e; omega) (fun e => by injection e with e; omega)
            have x3 := e3.1 q i
            rw [x2.1, x2.2, x3.1, x3.2]
            refine ⟨(pe3 q i).1, Eq.trans ?_ (pe3 q i).2⟩
            funext x
            simp [sL]
          · have x2 := w2 (0, i) (fun e => by injection e with _ e; omega) (fun e => by injection e with _ e; omega)
            rw [x2.1, x2.2]
            exact e1.1 i (by omega) b
    · have pl := pm_lead_w (G := G) (l := l) (M := M3) off jit hbig
      have h1 := hCl M3 (slC M3 off jit) hM3 p8 (by rw [o5, o6]; exact pl)
      have kA : kp M (slC M3 off jit) := ⟨slC_r.trans k3.1, fun i a => by
        rw [(slC_f (k := (0, i)) (fun e => by injection e with _ e; omega)).1, (slC_f (k := (0, i)) (fun e => by injection e with _ e; omega)).2]
        exact k3.2 i a⟩
      obtain ⟨B2, e1, e2, e3, e4, e5, e6⟩ := hMo (sL (slC M3 off jit) OK_ 0 (0 : Int32).toInt64) kA.1 kA.mE
      have hB2 : B2.2.2 = M.2.2 := e2.trans kA.1
      obtain ⟨B3, w1, w2, w3, w4, w5⟩ := upd B2 e1 (by rw [hB2]; exact hM)
      have h26 : B3.2.1 MK 26 = off := by rw [w4]; rfl
      have h27 : B3.2.1 MK 27 = jit := by rw [w4]; rfl
      have sc := scm B2 B3 e1 w3 w4
      have h33 : B3.1 MK 33 = nI q := sc.1.2.1.trans c8
      have p2' := mo_lead_w (G := G) (l := l) (M := B3) (by rw [h26]; exact hbig) (by rw [h33]; exact (ld_sh q c16).2.2)
      obtain ⟨s1, s2, s3, s4⟩ := slM_f (B := B3) c16 h33
      have tpk : B3.1 TPK = (slC M3 off jit).1 TPK ∧ B3.2.1 TPK = (slC M3 off jit).2.1 TPK := by
        rw [(w2 TPK (by decide) (by decide)).1, (w2 TPK (by decide) (by decide)).2, (e3.2 5 (by decide)).1, (e3.2 5 (by decide)).2]
        refine ⟨rfl, ?_⟩
        funext x
        simp [sL]
      obtain ⟨q', hq'⟩ := RC_slew rc0 hu2 hld2 hT3.1 hT3.2 sc off jit h26 h27 tpk.1 tpk.2
      refine hear_sim h1 (e6 _ (w5 _ p2')) ?_ ?_ (fin _ B2 B3 _ kA e1 hB2 e3 (slC_f (by decide)).1 (slC_f (by decide)).2 w2 w3 w4 (by rw [s1, w1, hB2]) (fun i hi => s2 (0, i) (fun e => by injection e with _ e; omega)) (s2 _ (by decide)).1 (s2 _ (by decide)).1 (fun j h => s3 j (by omega)) s4 ⟨ld + 1, q', by omega, hq'⟩ ⟨cn1, fun p hp => ?_⟩)
      · rw [s3 0 (by decide), w3 0 (by decide)]
        exact e4
      · rw [(s2 OK_ (by decide)).2, (w2 OK_ (by decide) (by decide)).2, e5]
        simp [sL]
      · refine R1_cm2 (A := M2) (B := K2) (fun q i => ?_) (fun i a b => ?_) (hA p hp)
        · have x1 := s2 (q + 1, i) (fun e => by injection e with e; omega)
          have x2 := w2 (q + 1, i) (fun e => by injection e with e; omega) (fun e => by injection e with e; omega)
          have x3 := e3.1 q i
          have y1 := slC_f (A := M3) (off := off) (jit := jit) (k := (q + 1, i)) (fun e => by injection e with e; omega)
          rw [x1.1, x1.2, x2.1, x2.2, x3.1, x3.2]
          refine ⟨y1.1.trans (pe3 q i).1, Eq.trans ?_ (y1.2.trans (pe3 q i).2)⟩
          funext x
          simp [sL]
        · have x1 := s2 (0, i) (fun e => by injection e with _ e; omega)
          have x2 := w2 (0, i) (fun e => by injection e with _ e; omega) (fun e => by injection e with _ e; omega)
          rw [x1.1, x1.2, x2.1, x2.2]
          exact e1.1 i (by omega) b
  · have hna : ∀ g, 2 * g < ns.length → ¬ ag V ns g := fun g hg z => hag ⟨g, hg, z⟩
    obtain ⟨M3, p5, p6, p7, p8⟩ := choose_n (G := G) (l := l) hM2 cn1 os (nI u) hPE V ns hns2 hVa hna
    have k3 : kp M M3 := k2.t (FC_kp p5)
    obtain ⟨B2, e1, e2, e3, e4, e5, e6⟩ := hMo (sL M3 OK_ 0 (0 : Int32).toInt64) k3.1 k3.mE
    have hB2 : B2.2.2 = M.2.2 := e2.trans k3.1
    have p2' := update_n (G := G) (l := l) (M := B2) (by rw [hB2]; exact hM) (mE_ps e1 hMP) V (by rw [mE_VV e1]; exact hV) (mcd B2 cn1 V) rfl ns (by rw [mE_cd e1]; exact hns) (fun g hg => hno g (by omega) (hna g hg))
    have hT3 : M3.1 TPK = M.1 TPK ∧ M3.2.1 TPK = M.2.1 TPK := by
      have := p5.2 TPK (fun z => by have := z.2.1; simp at this) (by decide)
      rw [this.1, this.2]
      exact ⟨hT1, hT2⟩
    have u1 : ∀ k, k ≠ MK → (up0 B2 ns).1 k = B2.1 k ∧ (up0 B2 ns).2.1 k = B2.2.1 k := fun k hk => ⟨by funext i; simp [up0, sI, hk], rfl⟩
    have u2 : ∀ i, (i < 22 ∨ 24 < i) → (up0 B2 ns).1 MK i = B2.1 MK i := fun i hi => by
      simp [up0, sI, show ¬ i = 22 by omega, show ¬ i = 23 by omega, show ¬ i = 24 by omega]
    have low : ∀ i, i < 20 → (up0 B2 ns).1 (0, i) = M3.1 (0, i) ∧ (up0 B2 ns).2.1 (0, i) = M3.2.1 (0, i) := fun i hi => by
      have x1 := u1 (0, i) (fun e => by injection e with _ e; omega)
      rw [x1.1, x1.2, (e3.2 i hi).1, (e3.2 i hi).2]
      refine ⟨rfl, ?_⟩
      funext x
      simp [sL, show ¬ i = 40 by omega]
    have mk : ∀ i, i ≠ 0 → i ≠ 32 → (i < 22 ∨ 24 < i) → (up0 B2 ns).1 MK i = M.1 MK i := fun i h1 h2 h3 => by
      rw [u2 i h3, e1.2.1 i h1 h2, kk3]
    have ml : (up0 B2 ns).2.1 MK = M.2.1 MK := by
      show B2.2.1 MK = _
      rw [e1.2.2, kk4]
    refine hear_sim (hC0 M3 p8) (e6 _ p2') ?_ ?_ (fin_rel hM hx rt hu k3 hB2 low ?_ ?_ ?_ ?_ ⟨ld, q, by omega, RC_c ⟨⟨?_, ?_⟩, ⟨mk 6 (by decide) (by decide) (by decide), mk 33 (by decide) (by decide) (by decide), mk 34 (by decide) (by decide) (by decide), mk 35 (by decide) (by decide) (by decide), mk 36 (by decide) (by decide) (by decide), mk 37 (by decide) (by decide) (by decide)⟩, by rw [ml], by rw [ml], by rw [ml], by rw [ml]⟩ rc0⟩ ⟨cn1, fun p hp => ?_⟩ ?_)
    · rw [u2 0 (by decide)]
      exact e4
    · rw [(u1 OK_ (by decide)).2, e5]
      simp [sL]
    · rw [(u1 (0, 21) (by decide)).1, (e1.1 21 (by decide) (by decide)).1, kk1]
    · rw [(u1 (0, 22) (by decide)).1, (e1.1 22 (by decide) (by decide)).1, kk2]
    · exact mk 2 (by decide) (by decide) (by decide)
    · exact mk 4 (by decide) (by decide) (by decide)
    · rw [(low 5 (by decide)).1]; exact hT3.1
    · rw [(low 5 (by decide)).2]; exact hT3.2
    · refine R1_cm2 (A := M2) (B := K2) (fun q i => ?_) (fun i a b => ?_) (hA p hp)
      · have x2 := u1 (q + 1, i) (fun e => by injection e with e; omega)
        have x3 := e3.1 q i
        have pe3 := p5.2 (q + 1, i) (fun z => by have := z.1; simp at this) (fun e => by injection e with e; omega)
        rw [x2.1, x2.2, x3.1, x3.2]
        refine ⟨pe3.1, Eq.trans ?_ pe3.2⟩
        funext x
        simp [sL]
      · have x2 := u1 (0, i) (fun e => by injection e with _ e; omega)
        rw [x2.1, x2.2]
        exact e1.1 i (by omega) b
    · rw [hH1] at p6
      rw [hH2] at p7
      exact RX_n rx (a := nI (msk ns)) (by rw [(low 7 (by decide)).1]; exact p6) (by rw [(low 7 (by decide)).2]; exact p7) (by simp [up0, sI]) (by simp [up0, sI]) (by simp [up0, sI]) (mk 25 (by decide) (by decide) (by decide)) (mk 28 (by decide) (by decide) (by decide)) (fun i _ _ => by rw [ml])
end HE3
