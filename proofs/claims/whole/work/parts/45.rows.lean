/-! the row: kept, sorted, gathered -/
def Rk (V : VV) (x y : Nat) : Prop := rkV V x < rkV V y ∨ (rkV V x = rkV V y ∧ x < y)
theorem Rk_int (V : VV) (x y : Nat) : Rk V x y ↔ ((rkV V x).toInt < (rkV V y).toInt ∨ ((rkV V x).toInt = (rkV V y).toInt ∧ x < y)) := by
  unfold Rk
  rw [Int64.lt_iff_toInt_lt, Int64.toInt_inj]
theorem Rk_trans {V : VV} {x y z : Nat} (h1 : Rk V x y) (h2 : Rk V y z) : Rk V x z := by rw [Rk_int] at *; omega
theorem Rk_irr {V : VV} {x : Nat} : ¬ Rk V x x := by rw [Rk_int]; omega
section RW4
variable {G : GG} {l : Launch} {M : Mem} {V : VV} {ns : List Nat}
theorem lp_keep (hM : M.2.2.1 = rf) (lo hi' : Int64) : ∀ k, k ≤ ns.length → ∀ N, FR M N → RowL V N (ns.take k ++ (ns.drop k).filter (inO V lo hi')) → ∃ N', (FR M N' ∧ RowL V N' (ns.filter (inO V lo hi'))) ∧ PW G l m_RW_keepWithin 8 [some (vR (some RWK)), some (vL lo), none, some (vL hi'), none, some (vI (nI k - 1))] [] N rV N' 0 0 := by
  intro k
  induction k with
  | zero =>
    intro _ N hF hR
    rw [List.take_zero, List.drop_zero, List.nil_append] at hR
    refine ⟨N, ⟨hF, hR⟩, ?_⟩
    refine pw_iload d_RW_keepWithin_8 rfl ?_
    refine pw_if_lt (tgt := 49) d_RW_keepWithin_10 (by decide) (fun _ => ?_) (fun hQ => absurd ((by decide)) hQ)
    refine pw_return d_RW_keepWithin_49 rfl ?_ ?_
    · rfl
    · rfl
  | succ k ih =>
    intro hk N hF hR
    obtain ⟨x, hx⟩ := get_lt (show k < ns.length from hk)
    have hN := hF.rf hM
    have et : ns.take (k + 1) = ns.take k ++ [x] := by rw [List.take_add_one, hx]; rfl
    have ed : ns.drop k = x :: ns.drop (k + 1) := by rw [List.drop_eq_getElem_cons hk, (List.getElem?_eq_some_iff.mp hx).2]
    have hl : (ns.take k).length = k := by rw [List.length_take]; omega
    have hR0 := hR
    obtain ⟨h1, h2, h3⟩ := hR
    have hix : (ns.take (k + 1) ++ (ns.drop (k + 1)).filter (inO V lo hi'))[k]? = some x := by
      rw [et, List.append_assoc, List.getElem?_append_right (by omega), hl]
      simp
    obtain ⟨g1, g2, g3, g4, g5⟩ := h3 k x hix
    have hk8 : k < 8 := Nat.lt_of_lt_of_le (get_ltI hix) h2
    rw [nI_pred]
    by_cases hp : inO V lo hi' x = true
    · obtain ⟨N', hX, hw⟩ := ih (by omega) N hF (by
        rw [ed, List.filter_cons, if_pos hp]
        rw [et, List.append_assoc] at hR0
        exact hR0)
      refine ⟨N', hX, ?_⟩
      unfold inO at hp
      simp only [Bool.and_eq_true, decide_eq_true_eq] at hp
      refine pw_iload d_RW_keepWithin_8 rfl ?_
      refine pw_if_lt (tgt := 49) d_RW_keepWithin_10 (by decide) (fun hQ => absurd hQ (nI_pos (by omega))) (fun _ => ?_)
      refine pw_aload_n d_RW_keepWithin_13 rfl ?_
      refine pw_getR d_RW_keepWithin_14 f_RW_18 rfl rfl (rfO hN rfl) ?_
      refine pw_iload d_RW_keepWithin_17 rfl ?_
      refine pw_laN (n := k) d_RW_keepWithin_19 rfl (by omega) (by decide) ?_
      rw [g3]
      refine pw_lload_n d_RW_keepWithin_20 rfl ?_
      refine pw_lcmp d_RW_keepWithin_21 ?_
      refine pw_if_lt (tgt := 37) d_RW_keepWithin_22 (by decide) (fun hQ => absurd hQ ((fun z => hp.1 ((lg_lt _ _).mp z)))) (fun _ => ?_)
      refine pw_aload_n d_RW_keepWithin_25 rfl ?_
      refine pw_getR d_RW_keepWithin_26 f_RW_18 rfl rfl (rfO hN rfl) ?_
      refine pw_iload d_RW_keepWithin_29 rfl ?_
      refine pw_laN (n := k) d_RW_keepWithin_31 rfl (by omega) (by decide) ?_
      rw [g3]
      refine pw_lload_n d_RW_keepWithin_32 rfl ?_
      refine pw_lcmp d_RW_keepWithin_33 ?_
      refine pw_if_le (tgt := 43) d_RW_keepWithin_34 (by decide) (fun _ => ?_) (fun hQ => absurd ((lg_le _ _).mpr hp.2) hQ)
      refine pw_iinc (-1) d_RW_keepWithin_43 rfl (by decide) (by decide) ?_
      dsimp only [stL, kil, isL, cat]
      refine pw_goto (tgt := 8) d_RW_keepWithin_46 (by decide) ?_
      rw [i32_m1]
      exact hw
    · obtain ⟨K, hFK, hRK, hwK⟩ := pm_remove (G := G) (l := l) hN hR0 k (get_ltI hix)
      have hRK2 : RowL V K (ns.take k ++ (ns.drop k).filter (inO V lo hi')) := by
        rw [ed, List.filter_cons, if_neg hp]
        rw [et, List.append_assoc, List.eraseIdx_append_of_length_le (by omega), hl] at hRK
        simpa using hRK
      obtain ⟨N', hX, hw⟩ := ih (by omega) K (hF.trans hFK) hRK2
      refine ⟨N', hX, ?_⟩
      have hp2 : oV V x < lo ∨ hi' < oV V x := by
        unfold inO at hp
        simp only [Bool.and_eq_true, decide_eq_true_eq] at hp
        exact Classical.byContradiction fun z => hp ⟨fun a => z (Or.inl a), fun a => z (Or.inr a)⟩
      refine pw_iload d_RW_keepWithin_8 rfl ?_
      refine pw_if_lt (tgt := 49) d_RW_keepWithin_10 (by decide) (fun hQ => absurd hQ (nI_pos (by omega))) (fun _ => ?_)
      refine pw_aload_n d_RW_keepWithin_13 rfl ?_
      refine pw_getR d_RW_keepWithin_14 f_RW_18 rfl rfl (rfO hN rfl) ?_
      refine pw_iload d_RW_keepWithin_17 rfl ?_
      refine pw_laN (n := k) d_RW_keepWithin_19 rfl (by omega) (by decide) ?_
      rw [g3]
      refine pw_lload_n d_RW_keepWithin_20 rfl ?_
      refine pw_lcmp d_RW_keepWithin_21 ?_
      refine pw_if_lt (tgt := 37) d_RW_keepWithin_22 (by decide) (fun h => ?_) (fun h => ?_)
      · refine pw_aload_n d_RW_keepWithin_37 rfl ?_
        refine pw_iload d_RW_keepWithin_38 rfl ?_
        refine c_RW_keepWithin_40 rfl (Nat.le_of_ble_eq_true rfl) hwK ?_
        refine pw_iinc (-1) d_RW_keepWithin_43 rfl (by decide) (by decide) ?_
        dsimp only [stL, kil, isL, cat]
        refine pw_goto (tgt := 8) d_RW_keepWithin_46 (by decide) ?_
        rw [i32_m1]
        exact hw
      · rw [lg_lt] at h
        refine pw_aload_n d_RW_keepWithin_25 rfl ?_
        refine pw_getR d_RW_keepWithin_26 f_RW_18 rfl rfl (rfO hN rfl) ?_
        refine pw_iload d_RW_keepWithin_29 rfl ?_
        refine pw_laN (n := k) d_RW_keepWithin_31 rfl (by omega) (by decide) ?_
        rw [g3]
        refine pw_lload_n d_RW_keepWithin_32 rfl ?_
        refine pw_lcmp d_RW_keepWithin_33 ?_
        refine pw_if_le (tgt := 43) d_RW_keepWithin_34 (by decide) (fun hQ => absurd hQ ((fun z => (lg_le _ _).mp z (hp2.resolve_left h)))) (fun _ => ?_)
        refine pw_aload_n d_RW_keepWithin_37 rfl ?_
        refine pw_iload d_RW_keepWithin_38 rfl ?_
        refine c_RW_keepWithin_40 rfl (Nat.le_of_ble_eq_true rfl) hwK ?_
        refine pw_iinc (-1) d_RW_keepWithin_43 rfl (by decide) (by decide) ?_
        dsimp only [stL, kil, isL, cat]
        refine pw_goto (tgt := 8) d_RW_keepWithin_46 (by decide) ?_
        rw [i32_m1]
        exact hw
theorem pm_keep (hM : M.2.2.1 = rf) (hR : RowL V M ns) (lo hi' : Int64) : ∃ N, FR M N ∧ RowL V N (ns.filter (inO V lo hi')) ∧ PM G l m_RW_keepWithin [vR (some RWK), vL lo, vL hi'] M rV N 0 0 := by
  obtain ⟨N, ⟨hF, hN⟩, hw⟩ := lp_keep (G := G) (l := l) (V := V) (ns := ns) hM lo hi' ns.length (Nat.le_refl _) M FR.rfl' (by rw [List.take_length, List.drop_length]; simpa using hR)
  refine ⟨N, hF, hN, ?_⟩
  refine pm_in [some (vR (some RWK)), some (vL lo), none, some (vL hi'), none, none] rfl ?_
  refine pw_aload_n d_RW_keepWithin_0 rfl ?_
  refine pw_getI d_RW_keepWithin_1 f_RW_28 rfl rfl ?_
  rw [hR.1]
  refine pw_iconst 1 d_RW_keepWithin_4 (by decide) ?_
  refine pw_isub d_RW_keepWithin_5 ?_
  refine pw_istore d_RW_keepWithin_6 (by decide) ?_
  dsimp only [stL, kil, isL, cat]
  exact hw
theorem lp_sortRA (hM : M.2.2.1 = rf) (i : Nat) (x : Nat) (r : List Nat) (X : Mem → Prop) (s : List Nat) (hs : s.Pairwise (Rk V)) (hx : ∀ y ∈ s, y < x)
    (hend : ∀ N s' q, FR M N → RowL V N (s' ++ r) → s'.Pairwise (Rk V) → (∀ y, y ∈ s' ↔ y = x ∨ y ∈ s) → s'.length = s.length + 1 → ∃ M', X M' ∧ PW G l m_RW_sortByRank 45 [some (vR (some RWK)), some (vI (nI i)), some (vI q)] [] N rV M' 0 0) :
    ∀ k s1 s2, s1.length = k → s = s1 ++ s2 → (∀ y ∈ s2, rkV V x < rkV V y) → ∀ N, FR M N → RowL V N (s1 ++ x :: (s2 ++ r)) → ∃ M', X M' ∧ PW G l m_RW_sortByRank 12 [some (vR (some RWK)), some (vI (nI i)), some (vI (nI k))] [] N rV M' 0 0 := by
  -- where it stops
  have stop : ∀ s1 s2, s = s1 ++ s2 → (∀ y ∈ s2, rkV V x < rkV V y) → (∀ y ∈ s1, ¬ rkV V x < rkV V y) → (s1 ++ x :: s2).Pairwise (Rk V) ∧ (∀ y, y ∈ s1 ++ x :: s2 ↔ y = x ∨ y ∈ s) ∧ (s1 ++ x :: s2).length = s.length + 1 := by
    intro s1 s2 e h2 h1
    subst e
    rw [List.pairwise_append] at hs
    obtain ⟨p1, p2, p3⟩ := hs
    refine ⟨?_, ?_, ?_⟩
    · rw [List.pairwise_append, List.pairwise_cons]
      refine ⟨p1, ⟨fun y hy => Or.inl (h2 y hy), p2⟩, fun a ha b hb => ?_⟩
      rcases List.mem_cons.mp hb with hb | hb
      · subst hb
        have n1 := h1 a ha
        have n2 := hx a (List.mem_append_left _ ha)
        rw [Int64.lt_iff_toInt_lt] at n1
        rw [Rk_int]
        omega
      · exact p3 a ha b hb
    · intro y
      simp only [List.mem_append, List.mem_cons]
      constructor
      · rintro (h | h | h)
        · exact Or.inr (Or.inl h)
        · exact Or.inl h
        · exact Or.inr (Or.inr h)
      · rintro (h | h | h)
        · exact Or.inr (Or.inl h)
        · exact Or.inl h
        · exact Or.inr (Or.inr h)
    · simp only [List.length_append, List.length_cons]
      omega
  intro k
  induction k with
  | zero =>
    intro s1 s2 hk e h2 N hF hR
    have : s1 = [] := List.length_eq_zero_iff.mp hk
    subst this
    obtain ⟨t1, t2, t3⟩ := stop [] s2 e h2 (fun y hy => by simp at hy)
    obtain ⟨M', hX, hw⟩ := hend N ([] ++ x :: s2) (nI 0) hF (by simpa using hR) t1 t2 t3
    refine ⟨M', hX, ?_⟩
    refine pw_iload_n d_RW_sortByRank_12 rfl ?_
    refine pw_if_le (tgt := 45) d_RW_sortByRank_13 (by decide) (fun _ => ?_) (fun hQ => absurd ((by decide)) hQ)
    exact hw
  | succ k ih =>
    intro s1 s2 hk e h2 N hF hR
    have hne : s1 ≠ [] := fun z => by rw [z] at hk; simp at hk
    obtain ⟨s0, y, es⟩ : ∃ s0 y, s1 = s0 ++ [y] := ⟨s1.dropLast, s1.getLast hne, (List.dropLast_concat_getLast hne).symm⟩
    subst es
    have hk0 : s0.length = k := by simpa using hk
    have hN := hF.rf hM
    have hR2 : RowL V N (s0 ++ y :: x :: (s2 ++ r)) := by simpa using hR
    have hl8 := hR2.2.1
    have hlen : (s0 ++ y :: x :: (s2 ++ r)).length = k + 2 + (s2 ++ r).length := by simp only [List.length_append, List.length_cons]; omega
    have iy : (s0 ++ y :: x :: (s2 ++ r))[k]? = some y := by rw [List.getElem?_append_right (by omega), hk0]; simp
    have ix : (s0 ++ y :: x :: (s2 ++ r))[k + 1]? = some x := by rw [List.getElem?_append_right (by omega), hk0, show k + 1 - k = 1 by omega]; simp
    by_cases hc : rkV V x < rkV V y
    · have hsw := pm_swapN (G := G) (l := l) hN k (by omega)
      have hrw := row_swap hR2
      rw [hk0] at hrw
      obtain ⟨M', hX, hw⟩ := ih s0 (y :: s2) hk0 (by rw [e]; simp) (fun z hz => by
        rcases List.mem_cons.mp hz with hz | hz
        · rw [hz]; exact hc
        · exact h2 z hz) _ (hF.trans FR_ra) (by simpa using hrw)
      refine ⟨M', hX, ?_⟩
      refine pw_iload_n d_RW_sortByRank_12 rfl ?_
      refine pw_if_le (tgt := 45) d_RW_sortByRank_13 (by decide) (fun hQ => absurd hQ (nI_nle (by omega) (by omega))) (fun _ => ?_)
      refine pw_aload_n d_RW_sortByRank_16 rfl ?_
      refine pw_iload_n d_RW_sortByRank_17 rfl ?_
      refine pw_iconst 1 d_RW_sortByRank_18 (by decide) ?_
      refine pw_isub d_RW_sortByRank_19 ?_
      rw [nI_pred]
      refine c_RW_sortByRank_20 rfl (Nat.le_of_ble_eq_true rfl) (pm_rank hN hR2 iy) ?_
      refine pw_aload_n d_RW_sortByRank_23 rfl ?_
      refine pw_iload_n d_RW_sortByRank_24 rfl ?_
      refine c_RW_sortByRank_25 rfl (Nat.le_of_ble_eq_true rfl) (pm_rank hN hR2 ix) ?_
      refine pw_lcmp d_RW_sortByRank_28 ?_
      refine pw_if_le (tgt := 45) d_RW_sortByRank_29 (by decide) (fun hQ => absurd hQ ((fun z => (lg_le _ _).mp z hc))) (fun _ => ?_)
      refine pw_aload_n d_RW_sortByRank_32 rfl ?_
      refine pw_iload_n d_RW_sortByRank_33 rfl ?_
      refine pw_iconst 1 d_RW_sortByRank_34 (by decide) ?_
      refine pw_isub d_RW_sortByRank_35 ?_
      rw [nI_pred]
      refine c_RW_sortByRank_36 rfl (Nat.le_of_ble_eq_true rfl) hsw ?_
      refine pw_iinc (-1) d_RW_sortByRank_39 rfl (by decide) (by decide) ?_
      dsimp only [stL, kil, isL, cat]
      refine pw_goto (tgt := 12) d_RW_sortByRank_42 (by decide) ?_
      rw [i32_m1, nI_pred]
      exact hw
    · have hall : ∀ z ∈ s0 ++ [y], ¬ rkV V x < rkV V z := by
        intro z hz
        rcases List.mem_append.mp hz with hz | hz
        · have : Rk V z y := by
            rw [e, List.append_assoc, List.pairwise_append] at hs
            exact hs.2.2 z hz y (by simp)
          rw [Rk_int] at this
          rw [Int64.lt_iff_toInt_lt] at hc ⊢
          omega
        · rw [List.mem_singleton.mp hz]
          exact hc
      obtain ⟨t1, t2, t3⟩ := stop (s0 ++ [y]) s2 e h2 hall
      obtain ⟨M', hX, hw⟩ := hend N _ (nI (k + 1)) hF (by simpa using hR) t1 t2 t3
      refine ⟨M', hX, ?_⟩
      refine pw_iload_n d_RW_sortByRank_12 rfl ?_
      refine pw_if_le (tgt := 45) d_RW_sortByRank_13 (by decide) (fun hQ => absurd hQ (nI_nle (by omega) (by omega))) (fun _ => ?_)
      refine pw_aload_n d_RW_sortByRank_16 rfl ?_
      refine pw_iload_n d_RW_sortByRank_17 rfl ?_
      refine pw_iconst 1 d_RW_sortByRank_18 (by decide) ?_
      refine pw_isub d_RW_sortByRank_19 ?_
      rw [nI_pred]
      refine c_RW_sortByRank_20 rfl (Nat.le_of_ble_eq_true rfl) (pm_rank hN hR2 iy) ?_
      refine pw_aload_n d_RW_sortByRank_23 rfl ?_
      refine pw_iload_n d_RW_sortByRank_24 rfl ?_
      refine c_RW_sortByRank_25 rfl (Nat.le_of_ble_eq_true rfl) (pm_rank hN hR2 ix) ?_
      refine pw_lcmp d_RW_sortByRank_28 ?_
      refine pw_if_le (tgt := 45) d_RW_sortByRank_29 (by decide) (fun _ => ?_) (fun hQ => absurd ((lg_le _ _).mpr hc) hQ)
      exact hw
theorem lp_sortRB (hM : M.2.2.1 = rf) (hup : ns.Pairwise (· < ·)) (n8 : ns.length ≤ 8) : ∀ i, i ≤ ns.length → ∀ s N x2, s.length = i → s.Pairwise (Rk V) → (∀ y, y ∈ s ↔ y ∈ ns.take i) → FR M N → RowL V N (s ++ ns.drop i) → isL x2 = false → ∃ M', (FR M M' ∧ ∃ t, RowL V M' t ∧ t.Pairwise (Rk V) ∧ ∀ y, y ∈ t ↔ y ∈ ns) ∧ PW G l m_RW_sortByRank 2 [some (vR (some RWK)), some (vI (nI i)), x2] [] N rV M' 0 0 := by
  refine lpU ?_ ?_
  · intro s N x2 h1 h2 h3 hF hR _
    rw [List.drop_length, List.append_nil] at hR
    rw [List.take_length] at h3
    refine ⟨N, ⟨hF, s, hR, h2, h3⟩, ?_⟩
    refine pw_iload_n d_RW_sortByRank_2 rfl ?_
    refine pw_aload_n d_RW_sortByRank_3 rfl ?_
    refine pw_getI d_RW_sortByRank_4 f_RW_28 rfl rfl ?_
    rw [hR.1, h1]
    refine pw_icmp_ge (tgt := 51) d_RW_sortByRank_7 (by decide) (fun _ => ?_) (fun hQ => absurd (nI_le (Nat.le_refl _) (by omega)) hQ)
    refine pw_return d_RW_sortByRank_51 rfl ?_ ?_
    · rfl
    · rfl
  · intro i hi ih s N x2 h1 h2 h3 hF hR hx2
    obtain ⟨x, hx⟩ := get_lt hi
    have ed : ns.drop i = x :: ns.drop (i + 1) := by rw [List.drop_eq_getElem_cons hi, (List.getElem?_eq_some_iff.mp hx).2]
    have et : ns.take (i + 1) = ns.take i ++ [x] := by rw [List.take_add_one, hx]; rfl
    have hlt : ∀ y ∈ s, y < x := by
      intro y hy
      have hy2 := (h3 y).mp hy
      have := List.take_append_drop i ns
      rw [← this, List.pairwise_append] at hup
      exact hup.2.2 y hy2 x (by rw [ed]; simp)
    have q := lp_sortRA (G := G) (l := l) (V := V) hM i x (ns.drop (i + 1)) (fun M' => FR M M' ∧ ∃ t, RowL V M' t ∧ t.Pairwise (Rk V) ∧ ∀ y, y ∈ t ↔ y ∈ ns) s h2 hlt ?_ i s [] h1 (by simp) (fun y hy => by simp at hy) N hF (by rw [ed] at hR; simpa using hR)
    · obtain ⟨M', hX, hw⟩ := q
      refine ⟨M', hX, ?_⟩
      have hl : (s ++ ns.drop i).length = ns.length := by rw [List.length_append, List.length_drop]; omega
      refine pw_iload_n d_RW_sortByRank_2 rfl ?_
      refine pw_aload_n d_RW_sortByRank_3 rfl ?_
      refine pw_getI d_RW_sortByRank_4 f_RW_28 rfl rfl ?_
      rw [hR.1, hl]
      refine pw_icmp_ge (tgt := 51) d_RW_sortByRank_7 (by decide) (fun hQ => absurd hQ (nI_ge hi (by omega))) (fun _ => ?_)
      refine pw_iload_n d_RW_sortByRank_10 rfl ?_
      refine pw_istore_n d_RW_sortByRank_11 (by decide) ?_
      dsimp only [stL, kil, isL, cat]
      exact hw
    · intro K s' q hK hRK hp hm hl
      obtain ⟨M', hX, hw⟩ := ih s' K (some (vI q)) (by omega) hp (fun y => by
        rw [hm, et, h3, List.mem_append, List.mem_singleton]
        exact Or.comm) hK hRK rfl
      refine ⟨M', hX, ?_⟩
      refine pw_iinc (1) d_RW_sortByRank_45 rfl (by decide) (by decide) ?_
      dsimp only [stL, kil, isL, cat]
      refine pw_goto (tgt := 2) d_RW_sortByRank_48 (by decide) ?_
      rw [nI_1]
      exact hw
theorem pm_sortRank (hM : M.2.2.1 = rf) (hR : RowL V M ns) (hup : ns.Pairwise (· < ·)) : ∃ N t, FR M N ∧ RowL V N t ∧ t.Pairwise (Rk V) ∧ (∀ y, y ∈ t ↔ y ∈ ns) ∧ PM G l m_RW_sortByRank [vR (some RWK)] M rV N 0 0 := by
  have hn := hR.2.1
  by_cases h0 : ns.length = 0
  · have : ns = [] := List.length_eq_zero_iff.mp h0
    subst this
    refine ⟨M, [], FR.rfl', hR, List.Pairwise.nil, fun _ => Iff.rfl, ?_⟩
    refine pm_in [some (vR (some RWK)), none, none] rfl ?_
    refine pw_iconst 1 d_RW_sortByRank_0 (by decide) ?_
    refine pw_istore_n d_RW_sortByRank_1 (by decide) ?_
    dsimp only [stL, kil, isL, cat]
    refine pw_iload_n d_RW_sortByRank_2 rfl ?_
    refine pw_aload_n d_RW_sortByRank_3 rfl ?_
    refine pw_getI d_RW_sortByRank_4 f_RW_28 rfl rfl ?_
    rw [hR.1]
    refine pw_icmp_ge (tgt := 51) d_RW_sortByRank_7 (by decide) (fun _ => ?_) (fun hQ => absurd ((by decide)) hQ)
    refine pw_return d_RW_sortByRank_51 rfl ?_ ?_
    · rfl
    · rfl
  · have hx := atL_get (l := ns) (i := 0) (by omega)
    have et : ns.take 1 = [atL ns 0] := by rw [show (1 : Nat) = 0 + 1 from rfl, List.take_add_one, hx]; rfl
    obtain ⟨N, ⟨hF, t, h1, h2, h3⟩, hw⟩ := lp_sortRB (G := G) (l := l) (V := V) hM hup hn 1 (by omega) (ns.take 1) M none (by rw [et]; rfl) (by rw [et]; exact List.pairwise_singleton _ _) (fun _ => Iff.rfl) FR.rfl' (by rw [List.take_append_drop]; exact hR) rfl
    refine ⟨N, t, hF, h1, h2, h3, ?_⟩
    refine pm_in [some (vR (some RWK)), none, none] rfl ?_
    refine pw_iconst 1 d_RW_sortByRank_0 (by decide) ?_
    refine pw_istore_n d_RW_sortByRank_1 (by decide) ?_
    dsimp only [stL, kil, isL, cat]
    exact hw
end RW4
