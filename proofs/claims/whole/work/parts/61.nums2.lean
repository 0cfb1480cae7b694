/-! shifts, means, agreements as numbers -/
theorem shr_int (a s : Int64) (k : Nat) (hk : k < 64) (hs : s.toBitVec.smod 64 = BitVec.ofNat 64 k) : (a >>> s).toInt = a.toInt / 2 ^ k := by
  show (a >>> s).toBitVec.toInt = _
  rw [Int64.toBitVec_shiftRight, hs, BitVec.sshiftRight_eq', BitVec.toNat_ofNat, Nat.mod_eq_of_lt (by omega), BitVec.toInt_sshiftRight, Int.shiftRight_eq_div_pow]
  rfl
theorem hf_lN : ∀ i, i < 8 → hfN i = lN (2 ^ (i + 1)) ∧ ((nI (i + 1)).toInt64 &&& 63).toBitVec.smod 64 = BitVec.ofNat 64 (i + 1) := by decide +kernel
theorem sh_hf {v : Int64} {i : Nat} (hi : i < 8) (hv : 0 ≤ v.toInt) : shN v i = v / hfN i := by
  apply Int64.toInt_inj.mp
  unfold shN
  have hp : 2 ^ (i + 1) ≤ 2 ^ 8 := Nat.pow_le_pow_right (by decide) (by omega)
  have hp0 : 0 < 2 ^ (i + 1) := Nat.two_pow_pos _
  have hl : (lN (2 ^ (i + 1))).toInt = ((2 ^ (i + 1) : Nat) : Int) := pk_lT (by omega)
  rw [shr_int v _ (i + 1) (by omega) (hf_lN i hi).2, (hf_lN i hi).1, l_div0 hv (by rw [hl]; omega), hl]
  rw [Int.natCast_pow]
  rfl
theorem ld_sh : ∀ q, q ≤ 10 → ((2 * nI q + 4).toInt64 &&& 63).toBitVec.smod 64 = BitVec.ofNat 64 (2 * q + 4) ∧ ((1 : Int64) <<< ((2 * nI q + 4).toInt64 &&& 63)).toInt = 2 ^ (2 * q + 4) ∧ ¬ (1 : Int64) <<< ((2 * nI q + 4).toInt64 &&& 63) = 0 := by decide +kernel
theorem rt_eq (r off u : Int64) (s : Int32) (q : Nat) (hq : q ≤ 10) (hu : (mn24 s).toInt64 = u) : rtC r off s (nI q) = rtM r off u (nI q) := by
  unfold rtC rtM
  rw [hu]
  congr 1
  apply Int64.toInt_inj.mp
  obtain ⟨h1, h2, h3⟩ := ld_sh q hq
  rw [shr_int _ _ (2 * q + 4) (by omega) h1, flr_int (by rw [h2]; exact Int.pow_pos (by decide)), h2]
theorem cl_eq (g : Int64) : cl2 g = cl3 g := by
  unfold cl2 cl3
  have c1 : (2000000 : Int64).toInt = 2000000 := by decide
  have c2 : (-2000000 : Int64).toInt = -2000000 := by decide
  by_cases h : g < 2000000
  · simp only [h, if_true]
    have h2 : ¬ (2000000 : Int64) < g := fun q => by rw [Int64.lt_iff_toInt_lt] at *; omega
    simp only [h2, if_false]
    by_cases h3 : (-2000000 : Int64) < g
    · have h4 : ¬ g < -2000000 := fun q => by rw [Int64.lt_iff_toInt_lt] at *; omega
      simp only [h3, h4, if_true, if_false]
    · by_cases h4 : g < -2000000
      · simp only [h3, h4, if_true, if_false]
      · simp only [h3, h4, if_false]
        apply Int64.toInt_inj.mp
        rw [Int64.lt_iff_toInt_lt] at h3 h4
        omega
  · simp only [h, if_false]
    rw [if_pos (by decide)]
    by_cases h2 : (2000000 : Int64) < g
    · simp only [h2, if_true]
    · have e : g = 2000000 := by
        apply Int64.toInt_inj.mp
        rw [Int64.lt_iff_toInt_lt] at h h2
        omega
      rw [e]
      decide
theorem mn_u (s : Int32) : (mn24 s).toInt64 = (if s ≤ 1024 then s.toInt64 else 1024) := by
  unfold mn24
  by_cases h : s < 1024
  · rw [if_pos h, if_pos (by rw [Int32.lt_iff_toInt_lt] at h; rw [Int32.le_iff_toInt_le]; omega)]
  · by_cases h2 : s ≤ 1024
    · have e : s = 1024 := by
        apply Int32.toInt_inj.mp
        rw [Int32.lt_iff_toInt_lt] at h
        rw [Int32.le_iff_toInt_le] at h2
        omega
      rw [e]
      decide
    · rw [if_neg h, if_neg h2]
      decide
/-! the mean -/
def dOK (d : Int64) : Prop := 24576 ≤ d.toInt ∧ d.toInt < 6442450944
theorem wt_b {V : VV} {x : Nat} (h : dOK (dV V x)) : 1 ≤ (wt V x).toInt ∧ (wt V x).toInt ≤ 2863311530 := by
  unfold wt
  obtain ⟨h1, h2⟩ := h
  have e : (70368744177664 : Int64).toInt = 70368744177664 := by decide
  rw [l_div0 (by rw [e]; omega) (by omega), e]
  constructor
  · exact Int.le_ediv_of_mul_le (by omega) (by omega)
  · have h3 : (2863311531 : Int) * 24576 ≤ 2863311531 * (dV V x).toInt := Int.mul_le_mul_of_nonneg_left h1 (by omega)
    have : (70368744177664 : Int) / (dV V x).toInt < 2863311531 := Int.ediv_lt_of_lt_mul (by omega) (by omega)
    omega
theorem gr_b {o : Int64} (h : oB o) : -268435456 ≤ (flr o 4096).toInt ∧ (flr o 4096).toInt ≤ 268435456 := by
  obtain ⟨h1, h2⟩ := h
  rw [flr_int (by decide)]
  show -268435456 ≤ o.toInt / 4096 ∧ o.toInt / 4096 ≤ 268435456
  omega
theorem mean_b {V : VV} {t : List Nat} (h8 : t.length ≤ 8) (hB : ∀ x ∈ t, oB (oV V x)) (hD : ∀ x ∈ t, dOK (dV V x)) : ∀ k, k ≤ t.length → ((k : Int) ≤ (mnW V (t.take k)).toInt ∧ (mnW V (t.take k)).toInt ≤ k * 2863311530) ∧ -268435456 * (mnW V (t.take k)).toInt ≤ (mnS V (t.take k)).toInt ∧ (mnS V (t.take k)).toInt ≤ 268435456 * (mnW V (t.take k)).toInt
  | 0, _ => by
    rw [List.take_zero]
    show (((0 : Nat) : Int) ≤ (0 : Int64).toInt ∧ _) ∧ _
    unfold mnW mnS
    simp only [List.foldl_nil, Int64.toInt_zero]
    omega
  | k + 1, hk => by
    obtain ⟨⟨a1, a2⟩, a3, a4⟩ := mean_b h8 hB hD k (by omega)
    obtain ⟨x, hx⟩ := get_lt (show k < t.length from hk)
    have hxm := get_mem hx
    obtain ⟨w1, w2⟩ := wt_b (hD x hxm)
    obtain ⟨g1, g2⟩ := gr_b (hB x hxm)
    have eW : mnW V (t.take (k + 1)) = mnW V (t.take k) + wt V x := by unfold mnW; rw [fold_take hx]
    have eS : mnS V (t.take (k + 1)) = mnS V (t.take k) + flr (oV V x) 4096 * wt V x := by unfold mnS; rw [fold_take hx]
    have p1 : -268435456 * (wt V x).toInt ≤ (flr (oV V x) 4096).toInt * (wt V x).toInt := Int.mul_le_mul_of_nonneg_right g1 (by omega)
    have p2 : (flr (oV V x) 4096).toInt * (wt V x).toInt ≤ 268435456 * (wt V x).toInt := Int.mul_le_mul_of_nonneg_right g2 (by omega)
    have eP : (flr (oV V x) 4096 * wt V x).toInt = (flr (oV V x) 4096).toInt * (wt V x).toInt := l_mul (by omega) (by omega)
    rw [eW, eS, l_add (by omega) (by omega), l_add (by rw [eP]; omega) (by rw [eP]; omega), eP]
    omega
theorem mean_ok {V : VV} {t : List Nat} (h8 : t.length ≤ 8) (h0 : 0 < t.length) (hB : ∀ x ∈ t, oB (oV V x)) (hD : ∀ x ∈ t, dOK (dV V x)) : 0 < mnW V t ∧ oB (mnO V t) := by
  have h := mean_b h8 hB hD t.length (Nat.le_refl _)
  rw [List.take_length] at h
  obtain ⟨⟨a1, a2⟩, a3, a4⟩ := h
  have hw : 0 < (mnW V t).toInt := by omega
  refine ⟨by rw [Int64.lt_iff_toInt_lt, Int64.toInt_zero]; exact hw, ?_⟩
  unfold mnO oB
  have e := flr_int (a := mnS V t) hw
  have b1 : -268435456 ≤ (flr (mnS V t) (mnW V t)).toInt := by rw [e]; exact Int.le_ediv_of_mul_le hw a3
  have b2 : (flr (mnS V t) (mnW V t)).toInt ≤ 268435456 := by rw [e]; exact Int.ediv_le_of_le_mul hw a4
  have c : (4096 : Int64).toInt = 4096 := by decide
  rw [l_mul (by rw [c]; omega) (by rw [c]; omega), c]
  omega
/-! the agreements -/
theorem ag_mi {V : VV} {ns : List Nat} {nd : Nat} {t : List Nat} (hb : ∀ x ∈ t, (loV V x).toInt < 4611686018427387904) : ∀ k, k ≤ t.length → agL V ns nd (t.take k) = (miN V ns nd (t.take k)).getD 4611686018427387904 ∧ ∀ a, miN V ns nd (t.take k) = some a → a.toInt < 4611686018427387904
  | 0, _ => by
    rw [List.take_zero]
    exact ⟨rfl, fun a h => by cases h⟩
  | k + 1, hk => by
    obtain ⟨e, h⟩ := ag_mi hb k (by omega)
    obtain ⟨x, hx⟩ := get_lt (show k < t.length from hk)
    have hlx := hb x (get_mem hx)
    have eA : agL V ns nd (t.take (k + 1)) = (if nd ≤ ns.countP (inI V (loV V x)) then (if loV V x < agL V ns nd (t.take k) then loV V x else agL V ns nd (t.take k)) else agL V ns nd (t.take k)) := by unfold agL; rw [fold_take hx]
    have eM : miN V ns nd (t.take (k + 1)) = miS V ns nd (miN V ns nd (t.take k)) x := by unfold miN; rw [fold_take hx]
    rw [eA, eM, e]
    unfold miS
    by_cases hc : nd ≤ ns.countP (inI V (loV V x))
    · rw [if_pos hc, if_pos hc]
      cases hm : miN V ns nd (t.take k) with
      | none =>
        have : loV V x < 4611686018427387904 := by rw [Int64.lt_iff_toInt_lt]; exact hlx
        simp only [Option.getD_none, this, if_true, Option.getD_some, true_and]
        intro a ha
        rw [← Option.some.inj ha]
        exact hlx
      | some b =>
        simp only [Option.getD_some]
        by_cases hl : loV V x < b
        · simp only [hl, if_true, Option.getD_some, true_and]
          intro a ha
          rw [← Option.some.inj ha]
          exact hlx
        · simp only [hl, if_false, Option.getD_some, true_and]
          intro a ha
          rw [← Option.some.inj ha]
          exact h b hm
    · rw [if_neg hc, if_neg hc]
      exact ⟨rfl, h⟩
theorem ag_ma {V : VV} {ns : List Nat} {nd : Nat} {t : List Nat} (hb : ∀ x ∈ t, -4611686018427387904 < (hiV V x).toInt) : ∀ k, k ≤ t.length → agH V ns nd (t.take k) = (maN V ns nd (t.take k)).getD (-4611686018427387904) ∧ ∀ a, maN V ns nd (t.take k) = some a → -4611686018427387904 < a.toInt
  | 0, _ => by
    rw [List.take_zero]
    exact ⟨rfl, fun a h => by cases h⟩
  | k + 1, hk => by
    obtain ⟨e, h⟩ := ag_ma hb k (by omega)
    obtain ⟨x, hx⟩ := get_lt (show k < t.length from hk)
    have hlx := hb x (get_mem hx)
    have eA : agH V ns nd (t.take (k + 1)) = (if nd ≤ ns.countP (inI V (hiV V x)) then (if agH V ns nd (t.take k) < hiV V x then hiV V x else agH V ns nd (t.take k)) else agH V ns nd (t.take k)) := by unfold agH; rw [fold_take hx]
    have eM : maN V ns nd (t.take (k + 1)) = maS V ns nd (maN V ns nd (t.take k)) x := by unfold maN; rw [fold_take hx]
    rw [eA, eM, e]
    unfold maS
    by_cases hc : nd ≤ ns.countP (inI V (hiV V x))
    · rw [if_pos hc, if_pos hc]
      cases hm : maN V ns nd (t.take k) with
      | none =>
        have : (-4611686018427387904 : Int64) < hiV V x := by rw [Int64.lt_iff_toInt_lt]; exact hlx
        simp only [Option.getD_none, this, if_true, Option.getD_some, true_and]
        intro a ha
        rw [← Option.some.inj ha]
        exact hlx
      | some b =>
        simp only [Option.getD_some]
        by_cases hl : b < hiV V x
        · simp only [hl, if_true, Option.getD_some, true_and]
          intro a ha
          rw [← Option.some.inj ha]
          exact hlx
        · simp only [hl, if_false, Option.getD_some, true_and]
          intro a ha
          rw [← Option.some.inj ha]
          exact h b hm
    · rw [if_neg hc, if_neg hc]
      exact ⟨rfl, h⟩
def vB (V : VV) (ns : List Nat) : Prop := ∀ x ∈ ns, oB (oV V x) ∧ dOK (dV V x)
theorem lo_b {V : VV} {x : Nat} (h : oB (oV V x) ∧ dOK (dV V x)) : (loV V x).toInt < 4611686018427387904 ∧ -4611686018427387904 < (loV V x).toInt ∧ (hiV V x).toInt < 4611686018427387904 ∧ -4611686018427387904 < (hiV V x).toInt := by
  obtain ⟨⟨a1, a2⟩, b1, b2⟩ := h
  have e1 : (loV V x).toInt = (oV V x).toInt - (dV V x).toInt := l_sub (by omega) (by omega)
  have e2 : (hiV V x).toInt = (oV V x).toInt + (dV V x).toInt := l_add (by omega) (by omega)
  rw [e1, e2]
  omega
theorem mi_lb {V : VV} {ns : List Nat} {nd : Nat} {t : List Nat} (hb : ∀ x ∈ t, -4611686018427387904 < (loV V x).toInt) : ∀ k, k ≤ t.length → ∀ a, miN V ns nd (t.take k) = some a → -4611686018427387904 < a.toInt
  | 0, _, a, h => by rw [List.take_zero] at h; cases h
  | k + 1, hk, a, h => by
    have ih := mi_lb (ns := ns) (nd := nd) hb k (by omega)
    obtain ⟨x, hx⟩ := get_lt (show k < t.length from hk)
    have hlx := hb x (get_mem hx)
    have eM : miN V ns nd (t.take (k + 1)) = miS V ns nd (miN V ns nd (t.take k)) x := by unfold miN; rw [fold_take hx]
    rw [eM] at h
    unfold miS at h
    by_cases hc : nd ≤ ns.countP (inI V (loV V x))
    · rw [if_pos hc] at h
      cases hm : miN V ns nd (t.take k) with
      | none =>
        rw [hm] at h
        rw [← Option.some.inj h]
        exact hlx
      | some b =>
        rw [hm] at h
        by_cases hl : loV V x < b
        · simp only [hl, if_true] at h
          rw [← Option.some.inj h]
          exact hlx
        · simp only [hl, if_false] at h
          rw [← Option.some.inj h]
          exact ih b hm
    · rw [if_neg hc] at h
      exact ih a h
theorem ma_ub {V : VV} {ns : List Nat} {nd : Nat} {t : List Nat} (hb : ∀ x ∈ t, (hiV V x).toInt < 4611686018427387904) : ∀ k, k ≤ t.length → ∀ a, maN V ns nd (t.take k) = some a → a.toInt < 4611686018427387904
  | 0, _, a, h => by rw [List.take_zero] at h; cases h
  | k + 1, hk, a, h => by
    have ih := ma_ub (ns := ns) (nd := nd) hb k (by omega)
    obtain ⟨x, hx⟩ := get_lt (show k < t.length from hk)
    have hlx := hb x (get_mem hx)
    have eM : maN V ns nd (t.take (k + 1)) = maS V ns nd (maN V ns nd (t.take k)) x := by unfold maN; rw [fold_take hx]
    rw [eM] at h
    unfold maS at h
    by_cases hc : nd ≤ ns.countP (inI V (hiV V x))
    · rw [if_pos hc] at h
      cases hm : maN V ns nd (t.take k) with
      | none =>
        rw [hm] at h
        rw [← Option.some.inj h]
        exact hlx
      | some b =>
        rw [hm] at h
        by_cases hl : b < hiV V x
        · simp only [hl, if_true] at h
          rw [← Option.some.inj h]
          exact hlx
        · simp only [hl, if_false] at h
          rw [← Option.some.inj h]
          exact ih b hm
    · rw [if_neg hc] at h
      exact ih a h
/-- the two agreements are one -/
theorem ag_iff {V : VV} {ns : List Nat} (hV : vB V ns) (f : Nat) (hf : f ≤ ns.length) : ag V ns f ↔ mAg V ns f (agL V ns (ns.length - f) ns) (agH V ns (ns.length - f) ns) := by
  have q1 := ag_mi (ns := ns) (nd := ns.length - f) (t := ns) (fun x hx => (lo_b (hV x hx)).1) ns.length (Nat.le_refl _)
  have q2 := ag_ma (ns := ns) (nd := ns.length - f) (t := ns) (fun x hx => (lo_b (hV x hx)).2.2.2) ns.length (Nat.le_refl _)
  have q3 := mi_lb (ns := ns) (nd := ns.length - f) (t := ns) (fun x hx => (lo_b (hV x hx)).2.1) ns.length (Nat.le_refl _)
  have q4 := ma_ub (ns := ns) (nd := ns.length - f) (t := ns) (fun x hx => (lo_b (hV x hx)).2.2.1) ns.length (Nat.le_refl _)
  rw [List.take_length] at q1 q2 q3 q4
  obtain ⟨e1, b1⟩ := q1
  obtain ⟨e2, b2⟩ := q2
  have c1 : (4611686018427387904 : Int64).toInt = 4611686018427387904 := by decide
  have c2 : (-4611686018427387904 : Int64).toInt = -4611686018427387904 := by decide
  unfold ag mAg
  rw [List.countP_eq_length_filter]
  generalize agL V ns (ns.length - f) ns = L at *
  generalize agH V ns (ns.length - f) ns = H at *
  have hle : (ns.filter (inO V L H)).length ≤ ns.length := List.length_filter_le _ _
  constructor
  · rintro ⟨h1, h2⟩
    rw [Int64.lt_iff_toInt_lt] at h1
    cases hm : miN V ns (ns.length - f) ns with
    | none =>
      exfalso
      rw [hm] at e1
      simp only [Option.getD_none] at e1
      cases hn : maN V ns (ns.length - f) ns with
      | none =>
        rw [hn] at e2
        simp only [Option.getD_none] at e2
        rw [e1, e2, c1, c2] at h1
        omega
      | some b =>
        have := q4 b hn
        rw [hn] at e2
        simp only [Option.getD_some] at e2
        rw [e1, e2, c1] at h1
        omega
    | some a =>
      have ha := q3 a hm
      rw [hm] at e1
      simp only [Option.getD_some] at e1
      cases hn : maN V ns (ns.length - f) ns with
      | none =>
        exfalso
        rw [hn] at e2
        simp only [Option.getD_none] at e2
        rw [e1, e2, c2] at h1
        omega
      | some b =>
        rw [hn] at e2
        simp only [Option.getD_some] at e2
        refine ⟨by rw [e1], by rw [e2], ?_, by omega⟩
        rw [Int64.lt_iff_toInt_lt]
        exact h1
  · rintro ⟨h1, h2, h3, h4⟩
    exact ⟨h3, by omega⟩
theorem ag_uni {V : VV} {ns : List Nat} {f : Nat} {lo hi : Int64} (hV : vB V ns) (h : mAg V ns f lo hi) : lo = agL V ns (ns.length - f) ns ∧ hi = agH V ns (ns.length - f) ns := by
  have q1 := ag_mi (ns := ns) (nd := ns.length - f) (t := ns) (fun x hx => (lo_b (hV x hx)).1) ns.length (Nat.le_refl _)
  have q2 := ag_ma (ns := ns) (nd := ns.length - f) (t := ns) (fun x hx => (lo_b (hV x hx)).2.2.2) ns.length (Nat.le_refl _)
  rw [List.take_length] at q1 q2
  rw [q1.1, q2.1, h.1, h.2.1]
  exact ⟨rfl, rfl⟩
/-- sorted lists with the same members are the same -/
theorem srt_uni {V : VV} : ∀ {a b : List Nat}, a.Pairwise (Rk V) → b.Pairwise (Rk V) → (∀ y, y ∈ a ↔ y ∈ b) → a = b
  | [], [], _, _, _ => rfl
  | [], y :: b, _, _, h => absurd ((h y).mpr List.mem_cons_self) (by simp)
  | x :: a, [], _, _, h => absurd ((h x).mp List.mem_cons_self) (by simp)
  | x :: a, y :: b, ha, hb, h => by
    rw [List.pairwise_cons] at ha hb
    have hxy : x = y := by
      rcases List.mem_cons.mp ((h x).mp List.mem_cons_self) with e | e
      · exact e
      · rcases List.mem_cons.mp ((h y).mpr List.mem_cons_self) with e2 | e2
        · exact e2.symm
        · exact absurd (Rk_trans (ha.1 y e2) (hb.1 x e)) Rk_irr
    subst hxy
    rw [srt_uni ha.2 hb.2 (fun z => by
      constructor
      · intro hz
        rcases List.mem_cons.mp ((h z).mp (List.mem_cons_of_mem _ hz)) with e | e
        · subst e; exact absurd (ha.1 z hz) Rk_irr
        · exact e
      · intro hz
        rcases List.mem_cons.mp ((h z).mpr (List.mem_cons_of_mem _ hz)) with e | e
        · subst e; exact absurd (hb.1 z hz) Rk_irr
        · exact e)]
