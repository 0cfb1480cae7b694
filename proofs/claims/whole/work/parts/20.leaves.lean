/-! leaves: Math, packets -/
/-- where the references lie, once all cells are made -/
def rfH : Nat → Nat → Option KK
  | 0, 0 => some (0, 1) | 0, 1 => some (0, 3) | 0, 2 => some (0, 5) | 0, 3 => some (0, 6) | 0, 4 => some (0, 7)
  | 1, 0 => some (0, 2) | 3, 0 => some (0, 4)
  | 6, p => if p < 8 then some (p + 1, 0) else none
  | 7, 0 => some (0, 8)
  | 8, 0 => some (0, 9) | 8, 1 => some (0, 10) | 8, 2 => some (0, 11) | 8, 3 => some (0, 12) | 8, 4 => some (0, 13)
  | 20, 1 => some (0, 21) | 20, 3 => some (0, 22) | 20, 10 => some (0, 23) | 20, 11 => some (0, 24) | 20, 12 => some (0, 25) | 20, 13 => some (0, 26) | 20, 14 => some (0, 27) | 20, 15 => some (0, 28) | 20, 16 => some (0, 29) | 20, 17 => some (0, 30) | 20, 18 => some (0, 31) | 20, 19 => some (0, 32) | 20, 20 => some (0, 33) | 20, 21 => some (0, 34) | 20, 31 => some (0, 35)
  | _, _ => none
def rfP (p : Nat) : Nat → Nat → Option KK
  | 0, 8 => some (p + 1, 1) | 0, 9 => some (p + 1, 2) | 0, 10 => some (p + 1, 3) | 0, 11 => some (p + 1, 4) | 0, 12 => some (p + 1, 5)
  | _, _ => none
def rf : KK → Nat → Option KK
  | (0, j), i => rfH j i
  | (p + 1, j), i => rfP p j i
theorem rf6 {p : Nat} (hp : p < 8) : rf (0, 6) (nI p).toNatClampNeg = some (p + 1, 0) := by
  rw [nI_clamp (by omega)]
  show (if p < 8 then some (p + 1, 0) else none) = _
  rw [if_pos hp]
theorem rfO {M : Mem} {k : KK} {j : Nat} {r : Option KK} (hM : M.2.2.1 = rf) (h : rf k j = r) : M.2.2.1 k j = r := by rw [hM]; exact h
theorem pm_in {G : GG} {l : Launch} {mi : MI} {as : List PV} {M M' : Mem} {o : PO} {mc ms : Nat} (L : List (Option PV)) (hL : padL (mL mi) (entL as) = L) (h : PW G l mi 0 L [] M o M' mc ms) : PM G l mi as M o M' mc ms := by
  unfold PM
  rw [hL]
  exact h
section LV1
variable {G : GG} {l : Launch} {M : Mem}
theorem pm_max_II (a b : Int32) : PM G l m_MA_max_II [vI a, vI b] M (rI (if a < b then b else a)) M 0 0 := by
  refine pm_in [some (vI a), some (vI b)] rfl ?_
  refine pw_iload_n d_MA_max_II_0 rfl ?_
  refine pw_iload_n d_MA_max_II_1 rfl ?_
  refine pw_icmp_lt (tgt := 9) d_MA_max_II_2 (by decide) (fun h => ?_) (fun h => ?_)
  · refine pw_iload_n d_MA_max_II_9 rfl ?_
    refine pw_ireturn d_MA_max_II_10 rfl ?_ ?_
    · rw [if_pos h]
    · rfl
  · refine pw_iload_n d_MA_max_II_5 rfl ?_
    refine pw_goto (tgt := 10) d_MA_max_II_6 (by decide) ?_
    refine pw_ireturn d_MA_max_II_10 rfl ?_ ?_
    · rw [if_neg h]
    · rfl
theorem pm_min_II (a b : Int32) : PM G l m_MA_min_II [vI a, vI b] M (rI (if b < a then b else a)) M 0 0 := by
  refine pm_in [some (vI a), some (vI b)] rfl ?_
  refine pw_iload_n d_MA_min_II_0 rfl ?_
  refine pw_iload_n d_MA_min_II_1 rfl ?_
  refine pw_icmp_gt (tgt := 9) d_MA_min_II_2 (by decide) (fun h => ?_) (fun h => ?_)
  · refine pw_iload_n d_MA_min_II_9 rfl ?_
    refine pw_ireturn d_MA_min_II_10 rfl ?_ ?_
    · rw [if_pos h]
    · rfl
  · refine pw_iload_n d_MA_min_II_5 rfl ?_
    refine pw_goto (tgt := 10) d_MA_min_II_6 (by decide) ?_
    refine pw_ireturn d_MA_min_II_10 rfl ?_ ?_
    · rw [if_neg h]
    · rfl
theorem lg_lt (a b : Int64) : lg_cmp a b < 0 ↔ a < b := by
  unfold lg_cmp
  split
  · rename_i h
    constructor
    · intro q; exact absurd q (by decide)
    · intro q; rw [gt_iff_lt, Int64.lt_iff_toInt_lt] at h; rw [Int64.lt_iff_toInt_lt] at q; omega
  · split
    · rename_i h
      subst h
      constructor
      · intro q; exact absurd q (by decide)
      · intro q; rw [Int64.lt_iff_toInt_lt] at q; omega
    · rename_i h1 h2
      constructor
      · intro _
        rw [gt_iff_lt, Int64.lt_iff_toInt_lt] at h1
        rw [Int64.lt_iff_toInt_lt]
        have : a.toInt ≠ b.toInt := fun q => h2 (Int64.toInt_inj.mp q)
        omega
      · intro _; decide
theorem lg_gt (a b : Int64) : 0 < lg_cmp a b ↔ b < a := by
  unfold lg_cmp
  split
  · rename_i h
    exact ⟨fun _ => h, fun _ => by decide⟩
  · rename_i h
    split
    · exact ⟨fun q => absurd q (by decide), fun q => absurd q h⟩
    · exact ⟨fun q => absurd q (by decide), fun q => absurd q h⟩
theorem lg_eq (a b : Int64) : lg_cmp a b = 0 ↔ a = b := by
  unfold lg_cmp
  split
  · rename_i h
    constructor
    · intro q; exact absurd q (by decide)
    · intro q; subst q; rw [gt_iff_lt, Int64.lt_iff_toInt_lt] at h; omega
  · split
    · rename_i h
      exact ⟨fun _ => h, fun _ => rfl⟩
    · rename_i h1 h2
      exact ⟨fun q => absurd q (by decide), fun q => absurd q h2⟩
theorem i32_nlt (x y : Int32) : ¬ x < y ↔ y ≤ x := by rw [Int32.lt_iff_toInt_lt, Int32.le_iff_toInt_le]; omega
theorem i64_nlt (x y : Int64) : ¬ x < y ↔ y ≤ x := by rw [Int64.lt_iff_toInt_lt, Int64.le_iff_toInt_le]; omega
theorem lg_ge (a b : Int64) : 0 ≤ lg_cmp a b ↔ ¬ a < b := by rw [← i32_nlt, lg_lt]
theorem lg_le (a b : Int64) : lg_cmp a b ≤ 0 ↔ ¬ b < a := by rw [← i32_nlt, lg_gt]
theorem pm_max_JJ (a b : Int64) : PM G l m_MA_max_JJ [vL a, vL b] M (rL (if a < b then b else a)) M 0 0 := by
  refine pm_in [some (vL a), none, some (vL b), none] rfl ?_
  refine pw_lload_n d_MA_max_JJ_0 rfl ?_
  refine pw_lload_n d_MA_max_JJ_1 rfl ?_
  refine pw_lcmp d_MA_max_JJ_2 ?_
  refine pw_if_lt (tgt := 10) d_MA_max_JJ_3 (by decide) (fun h => ?_) (fun h => ?_)
  · refine pw_lload_n d_MA_max_JJ_10 rfl ?_
    refine pw_lreturn d_MA_max_JJ_11 rfl ?_ ?_
    · rw [if_pos ((lg_lt a b).mp h)]
    · rfl
  · refine pw_lload_n d_MA_max_JJ_6 rfl ?_
    refine pw_goto (tgt := 11) d_MA_max_JJ_7 (by decide) ?_
    refine pw_lreturn d_MA_max_JJ_11 rfl ?_ ?_
    · rw [if_neg (fun q => h ((lg_lt a b).mpr q))]
    · rfl
theorem pm_min_JJ (a b : Int64) : PM G l m_MA_min_JJ [vL a, vL b] M (rL (if b < a then b else a)) M 0 0 := by
  refine pm_in [some (vL a), none, some (vL b), none] rfl ?_
  refine pw_lload_n d_MA_min_JJ_0 rfl ?_
  refine pw_lload_n d_MA_min_JJ_1 rfl ?_
  refine pw_lcmp d_MA_min_JJ_2 ?_
  refine pw_if_gt (tgt := 10) d_MA_min_JJ_3 (by decide) (fun h => ?_) (fun h => ?_)
  · refine pw_lload_n d_MA_min_JJ_10 rfl ?_
    refine pw_lreturn d_MA_min_JJ_11 rfl ?_ ?_
    · rw [if_pos ((lg_gt a b).mp h)]
    · rfl
  · refine pw_lload_n d_MA_min_JJ_6 rfl ?_
    refine pw_goto (tgt := 11) d_MA_min_JJ_7 (by decide) ?_
    refine pw_lreturn d_MA_min_JJ_11 rfl ?_ ?_
    · rw [if_neg (fun q => h ((lg_gt a b).mpr q))]
    · rfl
theorem pm_abs (a : Int64) : PM G l m_MA_abs [vL a] M (rL (if a < 0 then -a else a)) M 0 0 := by
  refine pm_in [some (vL a), none] rfl ?_
  refine pw_lload_n d_MA_abs_0 rfl ?_
  refine pw_lconst 0 d_MA_abs_1 (by decide) ?_
  refine pw_lcmp d_MA_abs_2 ?_
  refine pw_if_ge (tgt := 11) d_MA_abs_3 (by decide) (fun h => ?_) (fun h => ?_)
  · refine pw_lload_n d_MA_abs_11 rfl ?_
    refine pw_lreturn d_MA_abs_12 rfl ?_ ?_
    · rw [if_neg ((lg_ge a 0).mp h)]
    · rfl
  · refine pw_lload_n d_MA_abs_6 rfl ?_
    refine pw_lneg d_MA_abs_7 ?_
    refine pw_goto (tgt := 12) d_MA_abs_8 (by decide) ?_
    refine pw_lreturn d_MA_abs_12 rfl ?_ ?_
    · rw [if_pos (by rw [lg_ge] at h; exact Classical.not_not.mp h)]
    · rfl
/-- floorDiv as the machine does it -/
def fdv (a b : Int64) : Int64 := if a ^^^ b < 0 ∧ ¬ (a / b * b = a) then a / b - 1 else a / b
theorem pm_floorDiv (a b : Int64) (hb : ¬ b = 0) : PM G l m_MA_floorDiv [vL a, vL b] M (rL (fdv a b)) M 0 0 := by
  refine pm_in [some (vL a), none, some (vL b), none, none, none] rfl ?_
  refine pw_lload_n d_MA_floorDiv_0 rfl ?_
  refine pw_lload_n d_MA_floorDiv_1 rfl ?_
  refine pw_ldiv d_MA_floorDiv_2 hb ?_
  refine pw_lstore d_MA_floorDiv_3 (by decide) ?_
  dsimp only [stL, kil, isL, cat]
  refine pw_lload_n d_MA_floorDiv_5 rfl ?_
  refine pw_lload_n d_MA_floorDiv_6 rfl ?_
  refine pw_lxor d_MA_floorDiv_7 ?_
  refine pw_lconst 0 d_MA_floorDiv_8 (by decide) ?_
  refine pw_lcmp d_MA_floorDiv_9 ?_
  refine pw_if_ge (tgt := 27) d_MA_floorDiv_10 (by decide) (fun h => ?_) (fun h => ?_)
  · refine pw_lload d_MA_floorDiv_27 rfl ?_
    refine pw_lreturn d_MA_floorDiv_29 rfl ?_ ?_
    · rw [lg_ge] at h; unfold fdv; rw [if_neg (fun q => h q.1)]
    · rfl
  · refine pw_lload d_MA_floorDiv_13 rfl ?_
    refine pw_lload_n d_MA_floorDiv_15 rfl ?_
    refine pw_lmul d_MA_floorDiv_16 ?_
    refine pw_lload_n d_MA_floorDiv_17 rfl ?_
    refine pw_lcmp d_MA_floorDiv_18 ?_
    refine pw_if_eq (tgt := 27) d_MA_floorDiv_19 (by decide) (fun h2 => ?_) (fun h2 => ?_)
    · refine pw_lload d_MA_floorDiv_27 rfl ?_
      refine pw_lreturn d_MA_floorDiv_29 rfl ?_ ?_
      · rw [lg_eq] at h2; unfold fdv; rw [if_neg (fun q => q.2 h2)]
      · rfl
    · refine pw_lload d_MA_floorDiv_22 rfl ?_
      refine pw_lconst 1 d_MA_floorDiv_24 (by decide) ?_
      refine pw_lsub d_MA_floorDiv_25 ?_
      refine pw_lreturn d_MA_floorDiv_26 rfl ?_ ?_
      · rw [lg_eq] at h2; rw [lg_ge] at h; unfold fdv; rw [if_pos ⟨Classical.not_not.mp h, h2⟩]
      · rfl
end LV1
