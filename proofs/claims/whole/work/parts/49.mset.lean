/-! the reference: sets of peers -/
def MPs (M : Mem) (cm : Nat → Nat) : Prop := ∀ p, p < 8 → cm p ≤ 8 ∧ M.1 (0, 29) p = nI (cm p) ∧ (1 < cm p → 0 ≤ (mJs M p (cm p) / lN (cm p - 1)).toInt)
def mVV (M : Mem) (cm : Nat → Nat) : VV := (fun p => M.1 (0, 26) p, fun p => mOf M p (cm p), fun p => mDt M p (cm p), fun p => mJi M p (cm p))
def bts (m : Nat) (P : Nat → Bool) : Prop := m < 256 ∧ ∀ p, p < 8 → m.testBit p = P p
abbrev rgf (P : Nat → Bool) (i : Nat) : List Nat := (List.range i).filter P
theorem rgf_s {P : Nat → Bool} {i : Nat} : rgf P (i + 1) = rgf P i ++ (if P i then [i] else []) := by
  unfold rgf
  rw [List.range_succ, List.filter_append, List.filter_cons, List.filter_nil]
theorem rgf_y {P : Nat → Bool} {i : Nat} (h : P i = true) : rgf P (i + 1) = rgf P i ++ [i] := by rw [rgf_s, h]; rfl
theorem rgf_n {P : Nat → Bool} {i : Nat} (h : ¬ P i = true) : rgf P (i + 1) = rgf P i := by rw [rgf_s, if_neg h, List.append_nil]
theorem rgf_len {P : Nat → Bool} {i : Nat} : (rgf P i).length ≤ i := by
  have := List.length_filter_le P (List.range i)
  rw [List.length_range] at this
  exact this
theorem cnt_y {Q : Nat → Bool} {l : List Nat} {i : Nat} : (l ++ [i]).countP Q = l.countP Q + (if Q i then 1 else 0) := by
  rw [List.countP_append]
  cases h : Q i <;> simp [h]
theorem has_bit : ∀ m, m < 256 → ∀ p, p < 8 → ((nI m >>> (nI p &&& 31)) &&& 1 = 1 ↔ m.testBit p = true) := by decide +kernel
theorem testBit_msk' : ∀ (l : List Nat) (m p : Nat), (l.foldl (fun m p => m ||| 2 ^ p) m).testBit p = (m.testBit p || decide (p ∈ l))
  | [], m, p => by simp
  | x :: l, m, p => by
    rw [List.foldl_cons, testBit_msk' l (m ||| 2 ^ x) p, Nat.testBit_or, Nat.testBit_two_pow]
    by_cases h : x = p
    · simp [h]
    · have : ¬ p = x := fun q => h q.symm
      simp [h, this]
theorem testBit_msk (l : List Nat) (p : Nat) : (msk l).testBit p = decide (p ∈ l) := by
  unfold msk
  rw [testBit_msk']
  simp
theorem bts_msk {P : Nat → Bool} : bts (msk (rgf P 8)) P := by
  refine ⟨msk_lt (fun x hx => rg_lt hx), fun p hp => ?_⟩
  rw [testBit_msk]
  cases h : P p <;> simp [rgf, h, hp]
section MS
variable {G : GG} {l : Launch} {M : Mem}
theorem mo_has (m p : Nat) (hm : m < 256) (hp : p < 8) : PM G l m_MO_has [vI (nI m), vI (nI p)] M (rI (if m.testBit p = true then 1 else 0)) M 0 0 := by
  refine pm_in [some (vI (nI m)), some (vI (nI p))] rfl ?_
  have h := has_bit m hm p hp
  refine pw_iload_n d_MO_has_0 rfl ?_
  refine pw_iload_n d_MO_has_1 rfl ?_
  refine pw_ishr d_MO_has_2 ?_
  refine pw_iconst 1 d_MO_has_3 (by decide) ?_
  refine pw_iand d_MO_has_4 ?_
  refine pw_iconst 1 d_MO_has_5 (by decide) ?_
  by_cases hb : m.testBit p = true
  · refine pw_icmp_ne (tgt := 13) d_MO_has_6 (by decide) (fun hQ => absurd ((h.mpr hb)) hQ) (fun _ => ?_)
    refine pw_iconst 1 d_MO_has_9 (by decide) ?_
    refine pw_goto (tgt := 14) d_MO_has_10 (by decide) ?_
    refine pw_zreturn d_MO_has_14 rfl ?_ ?_ ?_
    · exact Or.inr rfl
    · rw [if_pos hb]
    · rfl
  · refine pw_icmp_ne (tgt := 13) d_MO_has_6 (by decide) (fun _ => ?_) (fun hQ => absurd hQ ((fun z => hb (h.mp z))))
    refine pw_iconst 0 d_MO_has_13 (by decide) ?_
    refine pw_zreturn d_MO_has_14 rfl ?_ ?_ ?_
    · exact Or.inl rfl
    · rw [if_neg hb]
    · rfl
theorem mo_hasP {m p : Nat} {P : Nat → Bool} (hm : bts m P) (hp : p < 8) : PM G l m_MO_has [vI (nI m), vI (nI p)] M (rI (if P p = true then 1 else 0)) M 0 0 := by
  have q := mo_has (G := G) (l := l) (M := M) m p hm.1 hp
  rw [hm.2 p hp] at q
  exact q
theorem mo_hasY {m p : Nat} {P : Nat → Bool} (hm : bts m P) (hp : p < 8) (h : P p = true) : PM G l m_MO_has [vI (nI m), vI (nI p)] M (rI 1) M 0 0 := by
  have q := mo_hasP (G := G) (l := l) (M := M) hm hp
  rw [if_pos h] at q
  exact q
theorem mo_hasN {m p : Nat} {P : Nat → Bool} (hm : bts m P) (hp : p < 8) (h : ¬ P p = true) : PM G l m_MO_has [vI (nI m), vI (nI p)] M (rI 0) M 0 0 := by
  have q := mo_hasP (G := G) (l := l) (M := M) hm hp
  rw [if_neg h] at q
  exact q
theorem lp_many {m : Nat} {P : Nat → Bool} (hm : bts m P) : ∀ i, i ≤ 8 → PW G l m_MO_many 4 [some (vI (nI m)), some (vI (nI (rgf P i).length)), some (vI (nI i))] [] M (rI (nI (rgf P 8).length)) M 0 0 := by
  refine lpU ?_ ?_
  · refine pw_iload_n d_MO_many_4 rfl ?_
    refine pw_bipush (8) d_MO_many_5 (by decide) ?_
    refine pw_icmp_ge (tgt := 32) d_MO_many_7 (by decide) (fun _ => ?_) (fun hQ => absurd (nI_le (a := 8) (b := 8) (by omega) (by omega)) hQ)
    refine pw_iload_n d_MO_many_32 rfl ?_
    refine pw_ireturn d_MO_many_33 rfl ?_ ?_
    · rfl
    · rfl
  · intro i hi ih
    refine pw_iload_n d_MO_many_4 rfl ?_
    refine pw_bipush (8) d_MO_many_5 (by decide) ?_
    refine pw_icmp_ge (tgt := 32) d_MO_many_7 (by decide) (fun hQ => absurd hQ (nI_ge (b := 8) hi (by omega))) (fun _ => ?_)
    by_cases h : P i = true
    · rw [rgf_y h] at ih
      refine pw_iload_n d_MO_many_10 rfl ?_
      refine pw_iload_n d_MO_many_11 rfl ?_
      refine c_MO_many_12 (Nat.le_of_ble_eq_true rfl) (mo_hasY hm hi h) ?_
      refine pw_if_eq (tgt := 24) d_MO_many_15 (by decide) (fun hQ => absurd hQ ((by decide))) (fun _ => ?_)
      refine pw_iload_n d_MO_many_18 rfl ?_
      refine pw_iconst 1 d_MO_many_19 (by decide) ?_
      refine pw_iadd d_MO_many_20 ?_
      refine pw_goto (tgt := 25) d_MO_many_21 (by decide) ?_
      refine pw_istore_n d_MO_many_25 (by decide) ?_
      dsimp only [stL, kil, isL, cat]
      refine pw_iinc (1) d_MO_many_26 rfl (by decide) (by decide) ?_
      dsimp only [stL, kil, isL, cat]
      refine pw_goto (tgt := 4) d_MO_many_29 (by decide) ?_
      rw [nI_1, nI_1]
      rw [List.length_append] at ih
      exact ih
    · rw [rgf_n h] at ih
      refine pw_iload_n d_MO_many_10 rfl ?_
      refine pw_iload_n d_MO_many_11 rfl ?_
      refine c_MO_many_12 (Nat.le_of_ble_eq_true rfl) (mo_hasN hm hi h) ?_
      refine pw_if_eq (tgt := 24) d_MO_many_15 (by decide) (fun _ => ?_) (fun hQ => absurd (rfl) hQ)
      refine pw_iload_n d_MO_many_24 rfl ?_
      refine pw_istore_n d_MO_many_25 (by decide) ?_
      dsimp only [stL, kil, isL, cat]
      refine pw_iinc (1) d_MO_many_26 rfl (by decide) (by decide) ?_
      dsimp only [stL, kil, isL, cat]
      refine pw_goto (tgt := 4) d_MO_many_29 (by decide) ?_
      rw [nI_1]
      exact ih
theorem mo_many {m : Nat} {P : Nat → Bool} (hm : bts m P) : PM G l m_MO_many [vI (nI m)] M (rI (nI (rgf P 8).length)) M 0 0 := by
  refine pm_in [some (vI (nI m)), none, none] rfl ?_
  refine pw_iconst 0 d_MO_many_0 (by decide) ?_
  refine pw_istore_n d_MO_many_1 (by decide) ?_
  dsimp only [stL, kil, isL, cat]
  refine pw_iconst 0 d_MO_many_2 (by decide) ?_
  refine pw_istore_n d_MO_many_3 (by decide) ?_
  dsimp only [stL, kil, isL, cat]
  exact lp_many hm 0 (by omega)
theorem mo_ofV (hM : M.2.2.1 = rf) {cm : Nat → Nat} (hP : MPs M cm) {p : Nat} (hp : p < 8) (h0 : 0 < cm p) : PM G l m_MO_offsetOf [vR (some MK), vI (nI p)] M (rL (oV (mVV M cm) p)) M 0 0 := mo_offsetOf hM p (cm p) hp (hP p hp).1 h0 (hP p hp).2.1
theorem mo_dtV (hM : M.2.2.1 = rf) {cm : Nat → Nat} (hP : MPs M cm) {p : Nat} (hp : p < 8) (h0 : 0 < cm p) : PM G l m_MO_distanceOf [vR (some MK), vI (nI p)] M (rL (dV (mVV M cm) p)) M 0 0 := mo_distanceOf hM p (cm p) hp (hP p hp).1 h0 (hP p hp).2.1 (hP p hp).2.2
theorem mo_jiV (hM : M.2.2.1 = rf) {cm : Nat → Nat} (hP : MPs M cm) {p : Nat} (hp : p < 8) (h0 : 0 < cm p) : PM G l m_MO_jitterOf [vR (some MK), vI (nI p)] M (rL (jV (mVV M cm) p)) M 0 0 := mo_jitterOf hM p (cm p) hp (hP p hp).1 h0 (hP p hp).2.1 (hP p hp).2.2
theorem mo_rankOf (hM : M.2.2.1 = rf) {cm : Nat → Nat} (hP : MPs M cm) {p : Nat} (hp : p < 8) (h0 : 0 < cm p) : PM G l m_MO_rankOf [vR (some MK), vI (nI p)] M (rL (rkV (mVV M cm) p)) M 0 0 := by
  refine pm_in [some (vR (some MK)), some (vI (nI p))] rfl ?_
  refine pw_aload_n d_MO_rankOf_0 rfl ?_
  refine pw_getR d_MO_rankOf_1 f_MO_26 rfl rfl (rfO hM rfl) ?_
  refine pw_iload_n d_MO_rankOf_4 rfl ?_
  refine pw_iaN (n := p) d_MO_rankOf_5 rfl (by omega) (by decide) ?_
  refine pw_i2l d_MO_rankOf_6 ?_
  refine pw_ldc2 (6442450944) d_MO_rankOf_7 g1024 ?_
  refine pw_lmul d_MO_rankOf_10 ?_
  refine pw_aload_n d_MO_rankOf_11 rfl ?_
  refine pw_iload_n d_MO_rankOf_12 rfl ?_
  refine c_MO_rankOf_13 rfl (Nat.le_of_ble_eq_true rfl) (mo_dtV hM hP hp h0) ?_
  refine pw_ladd d_MO_rankOf_16 ?_
  refine pw_lreturn d_MO_rankOf_17 rfl ?_ ?_
  · rfl
  · rfl
def mcd (M : Mem) (cm : Nat → Nat) (V : VV) (p : Nat) : Bool := decide (0 < cm p) && (decide (¬ M.1 (0, 25) p = 0) && decide (dV V p < 6442450944))
theorem mo_isCand (hM : M.2.2.1 = rf) {cm : Nat → Nat} (hP : MPs M cm) {p : Nat} (hp : p < 8) : PM G l m_MO_isCandidate [vR (some MK), vI (nI p)] M (rI (if mcd M cm (mVV M cm) p = true then 1 else 0)) M 0 0 := by
  refine pm_in [some (vR (some MK)), some (vI (nI p))] rfl ?_
  obtain ⟨h1, h2, h3⟩ := hP p hp
  refine pw_aload_n d_MO_isCandidate_0 rfl ?_
  refine pw_getR d_MO_isCandidate_1 f_MO_35 rfl rfl (rfO hM rfl) ?_
  refine pw_iload_n d_MO_isCandidate_4 rfl ?_
  refine pw_iaN (n := p) d_MO_isCandidate_5 rfl (by omega) (by decide) ?_
  rw [h2]
  by_cases h0 : 0 < cm p
  · refine pw_if_le (tgt := 34) d_MO_isCandidate_6 (by decide) (fun hQ => absurd hQ (nI_nle h0 (by omega))) (fun _ => ?_)
    refine pw_aload_n d_MO_isCandidate_9 rfl ?_
    refine pw_getR d_MO_isCandidate_10 f_MO_23 rfl rfl (rfO hM rfl) ?_
    refine pw_iload_n d_MO_isCandidate_13 rfl ?_
    refine pw_iaN (n := p) d_MO_isCandidate_14 rfl (by omega) (by decide) ?_
    by_cases hr : M.1 (0, 25) p = 0
    · refine pw_if_eq (tgt := 34) d_MO_isCandidate_15 (by decide) (fun _ => ?_) (fun hQ => absurd (hr) hQ)
      refine pw_iconst 0 d_MO_isCandidate_34 (by decide) ?_
      refine pw_zreturn d_MO_isCandidate_35 rfl ?_ ?_ ?_
      · exact Or.inl rfl
      · rw [if_neg (by unfold mcd; simp [hr])]
      · rfl
    · refine pw_if_eq (tgt := 34) d_MO_isCandidate_15 (by decide) (fun hQ => absurd hQ (hr)) (fun _ => ?_)
      refine pw_aload_n d_MO_isCandidate_18 rfl ?_
      refine pw_iload_n d_MO_isCandidate_19 rfl ?_
      refine c_MO_isCandidate_20 rfl (Nat.le_of_ble_eq_true rfl) (mo_dtV hM hP hp h0) ?_
      refine pw_ldc2 (6442450944) d_MO_isCandidate_23 g1024 ?_
      refine pw_lcmp d_MO_isCandidate_26 ?_
      by_cases hd : dV (mVV M cm) p < 6442450944
      · refine pw_if_ge (tgt := 34) d_MO_isCandidate_27 (by decide) (fun hQ => absurd hQ ((fun z => (lg_ge _ _).mp z hd))) (fun _ => ?_)
        refine pw_iconst 1 d_MO_isCandidate_30 (by decide) ?_
        refine pw_goto (tgt := 35) d_MO_isCandidate_31 (by decide) ?_
        refine pw_zreturn d_MO_isCandidate_35 rfl ?_ ?_ ?_
        · exact Or.inr rfl
        · rw [if_pos (by unfold mcd; simp only [h0, hr, hd, decide_true, not_false_eq_true, Bool.and_self])]
        · rfl
      · refine pw_if_ge (tgt := 34) d_MO_isCandidate_27 (by decide) (fun _ => ?_) (fun hQ => absurd (((lg_ge _ _).mpr hd)) hQ)
        refine pw_iconst 0 d_MO_isCandidate_34 (by decide) ?_
        refine pw_zreturn d_MO_isCandidate_35 rfl ?_ ?_ ?_
        · exact Or.inl rfl
        · rw [if_neg (by unfold mcd; simp only [hd, decide_false, Bool.and_false]; exact Bool.noConfusion)]
        · rfl
  · refine pw_if_le (tgt := 34) d_MO_isCandidate_6 (by decide) (fun _ => ?_) (fun hQ => absurd ((by rw [show cm p = 0 by omega]; decide)) hQ)
    refine pw_iconst 0 d_MO_isCandidate_34 (by decide) ?_
    refine pw_zreturn d_MO_isCandidate_35 rfl ?_ ?_ ?_
    · exact Or.inl rfl
    · rw [if_neg (by unfold mcd; simp [h0])]
    · rfl
theorem lp_hold (hM : M.2.2.1 = rf) {cm : Nat → Nat} (hP : MPs M cm) {m : Nat} {P : Nat → Bool} (hm : bts m P) (hC : M.1 MK 22 = nI m) (h0 : ∀ p, p < 8 → P p = true → 0 < cm p) (e : Int64) : ∀ i, i ≤ 8 → ∀ x : Option PV, isL x = false → PW G l m_MO_holding 5 [some (vR (some MK)), some (vL e), none, some (vI (nI ((rgf P i).countP (inI (mVV M cm) e)))), some (vI (nI i)), x] [] M (rI (nI ((rgf P 8).countP (inI (mVV M cm) e)))) M 0 0 := by
  refine lpU ?_ ?_
  · intro x _
    refine pw_iload d_MO_holding_5 rfl ?_
    refine pw_bipush (8) d_MO_holding_7 (by decide) ?_
    refine pw_icmp_ge (tgt := 86) d_MO_holding_9 (by decide) (fun _ => ?_) (fun hQ => absurd (nI_le (a := 8) (b := 8) (by omega) (by omega)) hQ)
    refine pw_iload_n d_MO_holding_86 rfl ?_
    refine pw_ireturn d_MO_holding_87 rfl ?_ ?_
    · rfl
    · rfl
  · intro i hi ih x _
    refine pw_iload d_MO_holding_5 rfl ?_
    refine pw_bipush (8) d_MO_holding_7 (by decide) ?_
    refine pw_icmp_ge (tgt := 86) d_MO_holding_9 (by decide) (fun hQ => absurd hQ (nI_ge (b := 8) hi (by omega))) (fun _ => ?_)
    refine pw_aload_n d_MO_holding_12 rfl ?_
    refine pw_getI d_MO_holding_13 f_MO_200 rfl rfl ?_
    rw [hC]
    by_cases h : P i = true
    · rw [rgf_y h, cnt_y] at ih
      have hc := h0 i hi h
      refine pw_iload d_MO_holding_16 rfl ?_
      refine c_MO_holding_18 (Nat.le_of_ble_eq_true rfl) (mo_hasY hm hi h) ?_
      refine pw_if_eq (tgt := 64) d_MO_holding_21 (by decide) (fun hQ => absurd hQ ((by decide))) (fun _ => ?_)
      refine pw_aload_n d_MO_holding_24 rfl ?_
      refine pw_iload d_MO_holding_25 rfl ?_
      refine c_MO_holding_27 rfl (Nat.le_of_ble_eq_true rfl) (mo_ofV hM hP hi hc) ?_
      refine pw_aload_n d_MO_holding_30 rfl ?_
      refine pw_iload d_MO_holding_31 rfl ?_
      refine c_MO_holding_33 rfl (Nat.le_of_ble_eq_true rfl) (mo_dtV hM hP hi hc) ?_
      refine pw_lsub d_MO_holding_36 ?_
      refine pw_lload_n d_MO_holding_37 rfl ?_
      refine pw_lcmp d_MO_holding_38 ?_
      by_cases h1 : e < oV (mVV M cm) i - dV (mVV M cm) i
      · refine pw_if_gt (tgt := 64) d_MO_holding_39 (by decide) (fun _ => ?_) (fun hQ => absurd (((lg_gt _ _).mpr h1)) hQ)
        refine pw_iconst 0 d_MO_holding_64 (by decide) ?_
        refine pw_istore d_MO_holding_65 (by decide) ?_
        dsimp only [stL, kil, isL, cat]
        refine pw_iload d_MO_holding_67 rfl ?_
        refine pw_if_eq (tgt := 78) d_MO_holding_69 (by decide) (fun _ => ?_) (fun hQ => absurd (rfl) hQ)
        refine pw_iload_n d_MO_holding_78 rfl ?_
        refine pw_istore_n d_MO_holding_79 (by decide) ?_
        dsimp only [stL, kil, isL, cat]
        refine pw_iinc (1) d_MO_holding_80 rfl (by decide) (by decide) ?_
        dsimp only [stL, kil, isL, cat]
        refine pw_goto (tgt := 5) d_MO_holding_83 (by decide) ?_
        rw [nI_1]
        rw [if_neg (by unfold inI; simp only [h1, not_true_eq_false, decide_false, Bool.false_and]; exact Bool.noConfusion)] at ih
        exact ih _ rfl
      · refine pw_if_gt (tgt := 64) d_MO_holding_39 (by decide) (fun hQ => absurd hQ ((fun z => h1 ((lg_gt _ _).mp z)))) (fun _ => ?_)
        refine pw_aload_n d_MO_holding_42 rfl ?_
        refine pw_iload d_MO_holding_43 rfl ?_
        refine c_MO_holding_45 rfl (Nat.le_of_ble_eq_true rfl) (mo_ofV hM hP hi hc) ?_
        refine pw_aload_n d_MO_holding_48 rfl ?_
        refine pw_iload d_MO_holding_49 rfl ?_
        refine c_MO_holding_51 rfl (Nat.le_of_ble_eq_true rfl) (mo_dtV hM hP hi hc) ?_
        refine pw_ladd d_MO_holding_54 ?_
        refine pw_lload_n d_MO_holding_55 rfl ?_
        refine pw_lcmp d_MO_holding_56 ?_
        by_cases h2 : oV (mVV M cm) i + dV (mVV M cm) i < e
        · refine pw_if_lt (tgt := 64) d_MO_holding_57 (by decide) (fun _ => ?_) (fun hQ => absurd (((lg_lt _ _).mpr h2)) hQ)
          refine pw_iconst 0 d_MO_holding_64 (by decide) ?_
          refine pw_istore d_MO_holding_65 (by decide) ?_
          dsimp only [stL, kil, isL, cat]
          refine pw_iload d_MO_holding_67 rfl ?_
          refine pw_if_eq (tgt := 78) d_MO_holding_69 (by decide) (fun _ => ?_) (fun hQ => absurd (rfl) hQ)
          refine pw_iload_n d_MO_holding_78 rfl ?_
          refine pw_istore_n d_MO_holding_79 (by decide) ?_
          dsimp only [stL, kil, isL, cat]
          refine pw_iinc (1) d_MO_holding_80 rfl (by decide) (by decide) ?_
          dsimp only [stL, kil, isL, cat]
          refine pw_goto (tgt := 5) d_MO_holding_83 (by decide) ?_
          rw [nI_1]
          rw [if_neg (by unfold inI; simp only [h2, not_true_eq_false, decide_false, Bool.and_false]; exact Bool.noConfusion)] at ih
          exact ih _ rfl
        · refine pw_if_lt (tgt := 64) d_MO_holding_57 (by decide) (fun hQ => absurd hQ ((fun z => h2 ((lg_lt _ _).mp z)))) (fun _ => ?_)
          refine pw_iconst 1 d_MO_holding_60 (by decide) ?_
          refine pw_goto (tgt := 65) d_MO_holding_61 (by decide) ?_
          refine pw_istore d_MO_holding_65 (by decide) ?_
          dsimp only [stL, kil, isL, cat]
          refine pw_iload d_MO_holding_67 rfl ?_
          refine pw_if_eq (tgt := 78) d_MO_holding_69 (by decide) (fun hQ => absurd hQ ((by decide))) (fun _ => ?_)
          refine pw_iload_n d_MO_holding_72 rfl ?_
          refine pw_iconst 1 d_MO_holding_73 (by decide) ?_
          refine pw_iadd d_MO_holding_74 ?_
          refine pw_goto (tgt := 79) d_MO_holding_75 (by decide) ?_
          refine pw_istore_n d_MO_holding_79 (by decide) ?_
          dsimp only [stL, kil, isL, cat]
          refine pw_iinc (1) d_MO_holding_80 rfl (by decide) (by decide) ?_
          dsimp only [stL, kil, isL, cat]
          refine pw_goto (tgt := 5) d_MO_holding_83 (by decide) ?_
          rw [nI_1, nI_1]
          rw [if_pos (by unfold inI; simp only [h1, h2, not_false_eq_true, decide_true, Bool.and_self])] at ih
          exact ih _ rfl
    · rw [rgf_n h] at ih
      refine pw_iload d_MO_holding_16 rfl ?_
      refine c_MO_holding_18 (Nat.le_of_ble_eq_true rfl) (mo_hasN hm hi h) ?_
      refine pw_if_eq (tgt := 64) d_MO_holding_21 (by decide) (fun _ => ?_) (fun hQ => absurd (rfl) hQ)
      refine pw_iconst 0 d_MO_holding_64 (by decide) ?_
      refine pw_istore d_MO_holding_65 (by decide) ?_
      dsimp only [stL, kil, isL, cat]
      refine pw_iload d_MO_holding_67 rfl ?_
      refine pw_if_eq (tgt := 78) d_MO_holding_69 (by decide) (fun _ => ?_) (fun hQ => absurd (rfl) hQ)
      refine pw_iload_n d_MO_holding_78 rfl ?_
      refine pw_istore_n d_MO_holding_79 (by decide) ?_
      dsimp only [stL, kil, isL, cat]
      refine pw_iinc (1) d_MO_holding_80 rfl (by decide) (by decide) ?_
      dsimp only [stL, kil, isL, cat]
      refine pw_goto (tgt := 5) d_MO_holding_83 (by decide) ?_
      rw [nI_1]
      exact ih _ rfl
theorem mo_hold (hM : M.2.2.1 = rf) {cm : Nat → Nat} (hP : MPs M cm) {m : Nat} {P : Nat → Bool} (hm : bts m P) (hC : M.1 MK 22 = nI m) (h0 : ∀ p, p < 8 → P p = true → 0 < cm p) (e : Int64) : PM G l m_MO_holding [vR (some MK), vL e] M (rI (nI ((rgf P 8).countP (inI (mVV M cm) e)))) M 0 0 := by
  refine pm_in [some (vR (some MK)), some (vL e), none, none, none, none] rfl ?_
  refine pw_iconst 0 d_MO_holding_0 (by decide) ?_
  refine pw_istore_n d_MO_holding_1 (by decide) ?_
  dsimp only [stL, kil, isL, cat]
  refine pw_iconst 0 d_MO_holding_2 (by decide) ?_
  refine pw_istore d_MO_holding_3 (by decide) ?_
  dsimp only [stL, kil, isL, cat]
  exact lp_hold hM hP hm hC h0 e 0 (by omega) none rfl
end MS
