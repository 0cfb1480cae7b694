/-! longs as numbers -/
theorem l_add {a b : Int64} (h1 : -9223372036854775808 ≤ a.toInt + b.toInt) (h2 : a.toInt + b.toInt < 9223372036854775808) : (a + b).toInt = a.toInt + b.toInt := by
  rw [Int64.toInt_add]
  exact Int.bmod_eq_of_le (by omega) (by omega)
theorem l_sub {a b : Int64} (h1 : -9223372036854775808 ≤ a.toInt - b.toInt) (h2 : a.toInt - b.toInt < 9223372036854775808) : (a - b).toInt = a.toInt - b.toInt := by
  rw [Int64.toInt_sub]
  exact Int.bmod_eq_of_le (by omega) (by omega)
theorem l_mul {a b : Int64} (h1 : -9223372036854775808 ≤ a.toInt * b.toInt) (h2 : a.toInt * b.toInt < 9223372036854775808) : (a * b).toInt = a.toInt * b.toInt := by
  rw [Int64.toInt_mul]
  exact Int.bmod_eq_of_le (by omega) (by omega)
theorem l_tdn {a b : Int} (ha : a < 0) : a.tdiv b = -((-a) / b) := by
  have h := Int.neg_tdiv a b
  rw [Int.tdiv_eq_ediv_of_nonneg (by omega)] at h
  omega
theorem l_div {a b : Int64} (hb : 0 < b.toInt) : (a / b).toInt = a.toInt.tdiv b.toInt := by
  rw [Int64.toInt_div]
  have h1 := a.le_toInt
  have h2 := a.toInt_lt
  by_cases ha : a.toInt < 0
  · rw [l_tdn ha]
    have h3 := Int.ediv_le_self b.toInt (a := -a.toInt) (by omega)
    have h4 := Int.ediv_nonneg (a := -a.toInt) (b := b.toInt) (by omega) (by omega)
    exact Int.bmod_eq_of_le (by omega) (by omega)
  · rw [Int.tdiv_eq_ediv_of_nonneg (by omega)]
    have h3 := Int.ediv_le_self b.toInt (a := a.toInt) (by omega)
    have h4 := Int.ediv_nonneg (a := a.toInt) (b := b.toInt) (by omega) (by omega)
    exact Int.bmod_eq_of_le (by omega) (by omega)
theorem l_div0 {a b : Int64} (ha : 0 ≤ a.toInt) (hb : 0 < b.toInt) : (a / b).toInt = a.toInt / b.toInt := by
  rw [l_div hb, Int.tdiv_eq_ediv_of_nonneg ha]
/-- floor is floor -/
theorem flr_int {a b : Int64} (hb : 0 < b.toInt) : (flr a b).toInt = a.toInt / b.toInt := by
  have h1 := a.le_toInt
  have h2 := a.toInt_lt
  have hb2 := b.toInt_lt
  unfold flr
  by_cases ha : a < 0
  · rw [if_pos ha]
    rw [Int64.lt_iff_toInt_lt, Int64.toInt_zero] at ha
    have hq := l_div (a := a) hb
    rw [l_tdn ha] at hq
    have hm := Int.mul_ediv_add_emod (-a.toInt) b.toInt
    have hr1 := Int.emod_nonneg (-a.toInt) (b := b.toInt) (by omega)
    have hr2 := Int.emod_lt_of_pos (-a.toInt) hb
    have hq1 := Int.ediv_le_self b.toInt (a := -a.toInt) (by omega)
    have hq2 := Int.ediv_nonneg (a := -a.toInt) (b := b.toInt) (by omega) (by omega)
    generalize (-a.toInt) / b.toInt = q at *
    generalize (-a.toInt) % b.toInt = r at *
    have hc : -q * b.toInt = -(b.toInt * q) := by rw [Int.neg_mul, Int.mul_comm]
    have hqb : (a / b * b).toInt = -(b.toInt * q) := by
      rw [l_mul]
      · rw [hq, hc]
      · rw [hq, hc]; omega
      · rw [hq, hc]; omega
    by_cases he : a / b * b = a
    · rw [if_pos he, hq]
      rw [he] at hqb
      refine (Int.ediv_eq_of_eq_mul_right (by omega) ?_).symm
      rw [hqb, Int.mul_neg]
    · rw [if_neg he]
      have h0 : r ≠ 0 := fun z => he (Int64.toInt_inj.mp (by rw [hqb]; omega))
      have hb1 : b.toInt ≠ 1 := fun z => by rw [z] at hr2; omega
      have hq5 : 2 * q ≤ b.toInt * q := Int.mul_le_mul_of_nonneg_right (by omega) hq2
      rw [l_sub (by rw [hq]; show _ ≤ _ - 1; omega) (by rw [hq]; show _ - 1 < _; omega), hq]
      show -q - 1 = _
      have hd : b.toInt * (-q - 1) = -(b.toInt * q) - b.toInt := by rw [Int.mul_sub, Int.mul_neg, Int.mul_one]
      exact ((Int.ediv_emod_unique (r := b.toInt - r) (q := -q - 1) hb).mpr ⟨by rw [hd]; omega, by omega, by omega⟩).1.symm
  · rw [if_neg ha, l_div0 (by rw [Int64.lt_iff_toInt_lt, Int64.toInt_zero] at ha; omega) hb]
/-! squares of grains -/
def oB (x : Int64) : Prop := -1099511627776 ≤ x.toInt ∧ x.toInt ≤ 1099511627776
theorem sqL_b {a b : Int64} (ha : oB a) (hb : oB b) : 0 ≤ (sqL (a - b)).toInt ∧ (sqL (a - b)).toInt ≤ 288230376151711744 := by
  unfold oB at ha hb
  unfold sqL
  have h1 : (a - b).toInt = a.toInt - b.toInt := l_sub (by omega) (by omega)
  have h2 : (flr (a - b) 4096).toInt = (a.toInt - b.toInt) / 4096 := by rw [flr_int (by decide), h1]; rfl
  have h3 : -536870912 ≤ (flr (a - b) 4096).toInt ∧ (flr (a - b) 4096).toInt ≤ 536870912 := by rw [h2]; omega
  generalize flr (a - b) 4096 = v at h3 ⊢
  have h4 : v.toInt * v.toInt ≤ 288230376151711744 := by
    by_cases h : 0 ≤ v.toInt
    · exact Int.le_trans (Int.mul_le_mul_of_nonneg_left h3.2 h) (by omega)
    · have : v.toInt * v.toInt = (-v.toInt) * (-v.toInt) := (Int.neg_mul_neg _ _).symm
      rw [this]
      exact Int.le_trans (Int.mul_le_mul_of_nonneg_left (a := -v.toInt) (b := 536870912) (c := -v.toInt) (by omega) (by omega)) (by omega)
  have h5 : 0 ≤ v.toInt * v.toInt := by
    by_cases h : 0 ≤ v.toInt
    · exact Int.mul_nonneg h h
    · have : v.toInt * v.toInt = (-v.toInt) * (-v.toInt) := (Int.neg_mul_neg _ _).symm
      rw [this]
      exact Int.mul_nonneg (by omega) (by omega)
  rw [l_mul (by omega) (by omega)]
  exact ⟨h5, h4⟩
theorem sm_b {f : Nat → Int64} : ∀ n, n ≤ 8 → (∀ i, i < n → 0 ≤ (f i).toInt ∧ (f i).toInt ≤ 288230376151711744) → 0 ≤ (smL f n).toInt ∧ (smL f n).toInt ≤ n * 288230376151711744
  | 0, _, _ => by show 0 ≤ (0 : Int64).toInt ∧ (0 : Int64).toInt ≤ _; rw [Int64.toInt_zero]; omega
  | n + 1, hn, h => by
    obtain ⟨h1, h2⟩ := sm_b n (by omega) (fun i hi => h i (by omega))
    obtain ⟨h3, h4⟩ := h n (by omega)
    rw [smL, l_add (by omega) (by omega)]
    omega
theorem div_b {s : Int64} {n : Nat} (hs : 0 ≤ s.toInt ∧ s.toInt ≤ 2305843009213693952) (h0 : 0 < n) (hn : n ≤ 8) : 0 ≤ (s / lN n).toInt ∧ (s / lN n).toInt < 2 ^ 62 := by
  have hl : (lN n).toInt = n := pk_lT (by omega)
  rw [l_div0 hs.1 (by rw [hl]; omega), hl]
  constructor
  · exact Int.ediv_nonneg hs.1 (by omega)
  · have := Int.ediv_le_self (n : Int) hs.1
    omega
