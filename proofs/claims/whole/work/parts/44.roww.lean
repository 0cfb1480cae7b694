/-! the row: what changes it -/
def isRow (k : KK) : Prop := k.1 = 0 ∧ 8 ≤ k.2 ∧ k.2 ≤ 13
/-- two memories that differ in the row alone -/
def FR (M N : Mem) : Prop := N.2.2 = M.2.2 ∧ ∀ k, ¬ isRow k → N.1 k = M.1 k ∧ N.2.1 k = M.2.1 k
theorem FR.rfl' {M : Mem} : FR M M := ⟨rfl, fun _ _ => ⟨rfl, rfl⟩⟩
theorem FR.trans {M N K : Mem} (h1 : FR M N) (h2 : FR N K) : FR M K := ⟨h2.1.trans h1.1, fun k hk => ⟨(h2.2 k hk).1.trans (h1.2 k hk).1, (h2.2 k hk).2.trans (h1.2 k hk).2⟩⟩
theorem FR.rf {M N : Mem} (h : FR M N) (hM : M.2.2.1 = rf) : N.2.2.1 = rf := by rw [h.1]; exact hM
theorem FR_sI {M : Mem} {k : KK} {j : Nat} {x : Int32} (hk : isRow k) : FR M (sI M k j x) := ⟨rfl, fun q hq => ⟨by
  have : q ≠ k := fun e => hq (e ▸ hk)
  funext i; simp [sI, this], rfl⟩⟩
theorem FR_sL {M : Mem} {k : KK} {j : Nat} {x : Int64} (hk : isRow k) : FR M (sL M k j x) := ⟨rfl, fun q hq => ⟨rfl, by
  have : q ≠ k := fun e => hq (e ▸ hk)
  funext i; simp [sL, this]⟩⟩
/-- the five arrays of the row -/
def ra (M : Mem) (f g : Nat → Int32) (a b c : Nat → Int64) : Mem := (fun q j => if q = (0, 9) then f j else if q = (0, 10) then g j else M.1 q j, fun q j => if q = (0, 11) then a j else if q = (0, 12) then b j else if q = (0, 13) then c j else M.2.1 q j, M.2.2)
section RA
variable {M : Mem} {f g : Nat → Int32} {a b c : Nat → Int64} {j : Nat} {x : Int32} {y : Int64}
theorem ra_self : ra M (M.1 (0, 9)) (M.1 (0, 10)) (M.2.1 (0, 11)) (M.2.1 (0, 12)) (M.2.1 (0, 13)) = M := by
  unfold ra
  refine Prod.ext ?_ (Prod.ext ?_ rfl)
  · funext q j
    show ite _ _ (ite _ _ _) = _
    by_cases h : q = (0, 9)
    · rw [if_pos h, h]
    · rw [if_neg h]
      by_cases h2 : q = (0, 10)
      · rw [if_pos h2, h2]
      · rw [if_neg h2]
  · funext q j
    show ite _ _ (ite _ _ (ite _ _ _)) = _
    by_cases h : q = (0, 11)
    · rw [if_pos h, h]
    · rw [if_neg h]
      by_cases h2 : q = (0, 12)
      · rw [if_pos h2, h2]
      · rw [if_neg h2]
        by_cases h3 : q = (0, 13)
        · rw [if_pos h3, h3]
        · rw [if_neg h3]
theorem ra_9 : (ra M f g a b c).1 (0, 9) = f := by funext j; simp [ra]
theorem ra_10 : (ra M f g a b c).1 (0, 10) = g := by funext j; simp [ra]
theorem ra_11 : (ra M f g a b c).2.1 (0, 11) = a := by funext j; simp [ra]
theorem ra_12 : (ra M f g a b c).2.1 (0, 12) = b := by funext j; simp [ra]
theorem ra_13 : (ra M f g a b c).2.1 (0, 13) = c := by funext j; simp [ra]
theorem ra_8 {i : Nat} : (ra M f g a b c).1 RWK i = M.1 RWK i := by simp [ra]
theorem s_ra9 : sI (ra M f g a b c) (0, 9) j x = ra M (up f j x) g a b c := by
  unfold sI ra up
  refine Prod.ext ?_ rfl
  funext q i
  show ite _ _ (ite _ _ _) = ite _ (ite _ _ _) _
  by_cases h : q = (0, 9)
  · by_cases h2 : i = j <;> simp [h, h2]
  · simp [h]
theorem s_ra10 : sI (ra M f g a b c) (0, 10) j x = ra M f (up g j x) a b c := by
  unfold sI ra up
  refine Prod.ext ?_ rfl
  funext q i
  show ite _ _ (ite _ _ (ite _ _ _)) = ite _ _ (ite _ (ite _ _ _) _)
  by_cases h : q = (0, 10)
  · by_cases h2 : i = j <;> simp [h, h2]
  · simp [h]
theorem s_ra11 : sL (ra M f g a b c) (0, 11) j y = ra M f g (up a j y) b c := by
  unfold sL ra up
  refine Prod.ext rfl (Prod.ext ?_ rfl)
  funext q i
  show ite _ _ (ite _ _ _) = ite _ (ite _ _ _) _
  by_cases h : q = (0, 11)
  · by_cases h2 : i = j <;> simp [h, h2]
  · simp [h]
theorem s_ra12 : sL (ra M f g a b c) (0, 12) j y = ra M f g a (up b j y) c := by
  unfold sL ra up
  refine Prod.ext rfl (Prod.ext ?_ rfl)
  funext q i
  show ite _ _ (ite _ _ (ite _ _ _)) = ite _ _ (ite _ (ite _ _ _) _)
  by_cases h : q = (0, 12)
  · by_cases h2 : i = j <;> simp [h, h2]
  · simp [h]
theorem s_ra13 : sL (ra M f g a b c) (0, 13) j y = ra M f g a b (up c j y) := by
  unfold sL ra up
  refine Prod.ext rfl (Prod.ext ?_ rfl)
  funext q i
  show ite _ _ (ite _ _ (ite _ _ (ite _ _ _))) = ite _ _ (ite _ _ (ite _ (ite _ _ _) _))
  by_cases h : q = (0, 13)
  · by_cases h2 : i = j <;> simp [h, h2]
  · simp [h]
theorem FR_ra : FR M (ra M f g a b c) := by
  refine ⟨rfl, fun k hk => ?_⟩
  have h9 : k ≠ (0, 9) := fun e => hk (by rw [e]; unfold isRow; decide)
  have h10 : k ≠ (0, 10) := fun e => hk (by rw [e]; unfold isRow; decide)
  have h11 : k ≠ (0, 11) := fun e => hk (by rw [e]; unfold isRow; decide)
  have h12 : k ≠ (0, 12) := fun e => hk (by rw [e]; unfold isRow; decide)
  have h13 : k ≠ (0, 13) := fun e => hk (by rw [e]; unfold isRow; decide)
  exact ⟨by funext j; simp [ra, h9, h10], by funext j; simp [ra, h11, h12, h13]⟩
end RA
def sd {α : Type} (f : Nat → α) (pl i : Nat) : Nat → α := fun j => if pl ≤ j ∧ j < i then f (j + 1) else f j
theorem sd_0 {α : Type} (f : Nat → α) (pl : Nat) : sd f pl pl = f := by
  funext j
  unfold sd
  rw [if_neg (by omega)]
theorem sd_step {α : Type} (f : Nat → α) (pl i : Nat) (h : pl ≤ i) : up (sd f pl i) i (sd f pl i (i + 1)) = sd f pl (i + 1) := by
  funext j
  unfold up sd
  by_cases e : j = i
  · subst e
    rw [if_pos rfl, if_neg (by omega), if_pos (by omega)]
  · rw [if_neg e]
    by_cases h2 : pl ≤ j ∧ j < i
    · rw [if_pos h2, if_pos (by omega)]
    · rw [if_neg h2, if_neg (by omega)]
def sw {α : Type} (f : Nat → α) (i : Nat) : Nat → α := up (up f i (f (i + 1))) (i + 1) (f i)
section RW3
variable {G : GG} {l : Launch} {M : Mem} {V : VV} {ns : List Nat}
theorem lp_remove (hM : M.2.2.1 = rf) (pl n : Nat) (hn : n < 8) (hl : M.1 RWK 5 = nI n) (f g : Nat → Int32) (a b c : Nat → Int64) : ∀ i, i ≤ n → pl ≤ i → PW G l m_RW_remove 12 [some (vR (some RWK)), some (vI (nI pl)), some (vI (nI i))] [] (ra M (sd f pl i) (sd g pl i) (sd a pl i) (sd b pl i) (sd c pl i)) rV (ra M (sd f pl n) (sd g pl n) (sd a pl n) (sd b pl n) (sd c pl n)) 0 0 := by
  refine lpU ?_ ?_
  · intro _
    refine pw_iload_n d_RW_remove_12 rfl ?_
    refine pw_aload_n d_RW_remove_13 rfl ?_
    refine pw_getI d_RW_remove_14 f_RW_28 rfl rfl ?_
    rw [ra_8, hl]
    refine pw_icmp_ge (tgt := 96) d_RW_remove_17 (by decide) (fun _ => ?_) (fun hQ => absurd (nI_le (Nat.le_refl _) (by omega)) hQ)
    refine pw_return d_RW_remove_96 rfl ?_ ?_
    · rfl
    · rfl
  · intro i hi ih hp
    have hr : ∀ f g a b c, (ra M f g a b c).2.2.1 = rf := fun _ _ _ _ _ => hM
    refine pw_iload_n d_RW_remove_12 rfl ?_
    refine pw_aload_n d_RW_remove_13 rfl ?_
    refine pw_getI d_RW_remove_14 f_RW_28 rfl rfl ?_
    rw [ra_8, hl]
    refine pw_icmp_ge (tgt := 96) d_RW_remove_17 (by decide) (fun hQ => absurd hQ (nI_ge hi (by omega))) (fun _ => ?_)
    refine pw_aload_n d_RW_remove_20 rfl ?_
    refine pw_getR d_RW_remove_21 f_RW_9 rfl rfl (rfO (hr _ _ _ _ _) rfl) ?_
    refine pw_iload_n d_RW_remove_24 rfl ?_
    refine pw_aload_n d_RW_remove_25 rfl ?_
    refine pw_getR d_RW_remove_26 f_RW_9 rfl rfl (rfO (hr _ _ _ _ _) rfl) ?_
    refine pw_iload_n d_RW_remove_29 rfl ?_
    refine pw_iconst 1 d_RW_remove_30 (by decide) ?_
    refine pw_iadd d_RW_remove_31 ?_
    rw [nI_1]
    refine pw_iaN (n := i + 1) d_RW_remove_32 rfl (by omega) (by decide) ?_
    refine pw_isN (n := i) d_RW_remove_33 rfl (by omega) (by decide) ?_
    rw [ra_9, s_ra9, sd_step _ _ _ hp]
    refine pw_aload_n d_RW_remove_34 rfl ?_
    refine pw_getR d_RW_remove_35 f_RW_15 rfl rfl (rfO (hr _ _ _ _ _) rfl) ?_
    refine pw_iload_n d_RW_remove_38 rfl ?_
    refine pw_aload_n d_RW_remove_39 rfl ?_
    refine pw_getR d_RW_remove_40 f_RW_15 rfl rfl (rfO (hr _ _ _ _ _) rfl) ?_
    refine pw_iload_n d_RW_remove_43 rfl ?_
    refine pw_iconst 1 d_RW_remove_44 (by decide) ?_
    refine pw_iadd d_RW_remove_45 ?_
    rw [nI_1]
    refine pw_iaN (n := i + 1) d_RW_remove_46 rfl (by omega) (by decide) ?_
    refine pw_isN (n := i) d_RW_remove_47 rfl (by omega) (by decide) ?_
    rw [ra_10, s_ra10, sd_step _ _ _ hp]
    refine pw_aload_n d_RW_remove_48 rfl ?_
    refine pw_getR d_RW_remove_49 f_RW_18 rfl rfl (rfO (hr _ _ _ _ _) rfl) ?_
    refine pw_iload_n d_RW_remove_52 rfl ?_
    refine pw_aload_n d_RW_remove_53 rfl ?_
    refine pw_getR d_RW_remove_54 f_RW_18 rfl rfl (rfO (hr _ _ _ _ _) rfl) ?_
    refine pw_iload_n d_RW_remove_57 rfl ?_
    refine pw_iconst 1 d_RW_remove_58 (by decide) ?_
    refine pw_iadd d_RW_remove_59 ?_
    rw [nI_1]
    refine pw_laN (n := i + 1) d_RW_remove_60 rfl (by omega) (by decide) ?_
    refine pw_lsN (n := i) d_RW_remove_61 rfl (by omega) (by decide) ?_
    rw [ra_11, s_ra11, sd_step _ _ _ hp]
    refine pw_aload_n d_RW_remove_62 rfl ?_
    refine pw_getR d_RW_remove_63 f_RW_22 rfl rfl (rfO (hr _ _ _ _ _) rfl) ?_
    refine pw_iload_n d_RW_remove_66 rfl ?_
    refine pw_aload_n d_RW_remove_67 rfl ?_
    refine pw_getR d_RW_remove_68 f_RW_22 rfl rfl (rfO (hr _ _ _ _ _) rfl) ?_
    refine pw_iload_n d_RW_remove_71 rfl ?_
    refine pw_iconst 1 d_RW_remove_72 (by decide) ?_
    refine pw_iadd d_RW_remove_73 ?_
    rw [nI_1]
    refine pw_laN (n := i + 1) d_RW_remove_74 rfl (by omega) (by decide) ?_
    refine pw_lsN (n := i) d_RW_remove_75 rfl (by omega) (by decide) ?_
    rw [ra_12, s_ra12, sd_step _ _ _ hp]
    refine pw_aload_n d_RW_remove_76 rfl ?_
    refine pw_getR d_RW_remove_77 f_RW_25 rfl rfl (rfO (hr _ _ _ _ _) rfl) ?_
    refine pw_iload_n d_RW_remove_80 rfl ?_
    refine pw_aload_n d_RW_remove_81 rfl ?_
    refine pw_getR d_RW_remove_82 f_RW_25 rfl rfl (rfO (hr _ _ _ _ _) rfl) ?_
    refine pw_iload_n d_RW_remove_85 rfl ?_
    refine pw_iconst 1 d_RW_remove_86 (by decide) ?_
    refine pw_iadd d_RW_remove_87 ?_
    rw [nI_1]
    refine pw_laN (n := i + 1) d_RW_remove_88 rfl (by omega) (by decide) ?_
    refine pw_lsN (n := i) d_RW_remove_89 rfl (by omega) (by decide) ?_
    rw [ra_13, s_ra13, sd_step _ _ _ hp]
    refine pw_iinc (1) d_RW_remove_90 rfl (by decide) (by decide) ?_
    dsimp only [stL, kil, isL, cat]
    refine pw_goto (tgt := 12) d_RW_remove_93 (by decide) ?_
    rw [nI_1]
    exact ih (by omega)
theorem pm_remove (hM : M.2.2.1 = rf) (hR : RowL V M ns) (pl : Nat) (hp : pl < ns.length) : ∃ N, FR M N ∧ RowL V N (ns.eraseIdx pl) ∧ PM G l m_RW_remove [vR (some RWK), vI (nI pl)] M rV N 0 0 := by
  obtain ⟨h1, h2, h3⟩ := hR
  have q := lp_remove (G := G) (l := l) (M := sI M RWK 5 (nI (ns.length - 1))) hM pl (ns.length - 1) (by omega) sI_s (M.1 (0, 9)) (M.1 (0, 10)) (M.2.1 (0, 11)) (M.2.1 (0, 12)) (M.2.1 (0, 13)) pl (by omega) (Nat.le_refl _)
  rw [sd_0, sd_0, sd_0, sd_0, sd_0] at q
  have e : ra (sI M RWK 5 (nI (ns.length - 1))) (M.1 (0, 9)) (M.1 (0, 10)) (M.2.1 (0, 11)) (M.2.1 (0, 12)) (M.2.1 (0, 13)) = sI M RWK 5 (nI (ns.length - 1)) := by
    have := ra_self (M := sI M RWK 5 (nI (ns.length - 1)))
    rw [show (sI M RWK 5 (nI (ns.length - 1))).1 (0, 9) = M.1 (0, 9) from by funext j; simp [sI], show (sI M RWK 5 (nI (ns.length - 1))).1 (0, 10) = M.1 (0, 10) from by funext j; simp [sI]] at this
    exact this
  rw [e] at q
  refine ⟨ra (sI M RWK 5 (nI (ns.length - 1))) (sd (M.1 (0, 9)) pl (ns.length - 1)) (sd (M.1 (0, 10)) pl (ns.length - 1)) (sd (M.2.1 (0, 11)) pl (ns.length - 1)) (sd (M.2.1 (0, 12)) pl (ns.length - 1)) (sd (M.2.1 (0, 13)) pl (ns.length - 1)), (FR_sI (k := RWK) (by unfold isRow; decide)).trans FR_ra, ⟨?_, ?_, ?_⟩, ?_⟩
  rotate_right 1
  · refine pm_in [some (vR (some RWK)), some (vI (nI pl)), none] rfl ?_
    refine pw_aload_n d_RW_remove_0 rfl ?_
    refine pw_dup d_RW_remove_1 rfl ?_
    refine pw_getI d_RW_remove_2 f_RW_28 rfl rfl ?_
    rw [h1]
    refine pw_iconst 1 d_RW_remove_5 (by decide) ?_
    refine pw_isub d_RW_remove_6 ?_
    rw [show nI ns.length - 1 = nI (ns.length - 1) from pk_sub (b := 1) (by omega)]
    refine pw_putI d_RW_remove_7 f_RW_28 rfl rfl rfl ?_
    refine pw_iload_n d_RW_remove_10 rfl ?_
    refine pw_istore_n d_RW_remove_11 (by decide) ?_
    dsimp only [stL, kil, isL, cat]
    exact q
  · rw [ra_8, sI_s, List.length_eraseIdx, if_pos hp]
  · rw [List.length_eraseIdx, if_pos hp]
    omega
  · intro i x hx
    rw [List.getElem?_eraseIdx] at hx
    rw [ra_9, ra_10, ra_11, ra_12, ra_13]
    unfold sd
    by_cases h : i < pl
    · rw [if_pos h] at hx
      simp only [show ¬ (pl ≤ i ∧ i < ns.length - 1) by omega, if_false]
      exact h3 i x hx
    · rw [if_neg h] at hx
      have := get_ltI hx
      simp only [show (pl ≤ i ∧ i < ns.length - 1) by omega, and_self, if_true]
      exact h3 (i + 1) x hx
theorem pm_swapI (k : KK) (hk : shp k = (1, 8)) (i : Nat) (hi : i + 1 < 8) : PM G l m_RW_swap_aII [vR (some k), vI (nI i)] M rV (oI M k (sw (M.1 k) i)) 0 0 := by
  refine pm_in [some (vR (some k)), some (vI (nI i)), none] rfl ?_
  refine pw_aload_n d_RW_swap_aII_0 rfl ?_
  refine pw_iload_n d_RW_swap_aII_1 rfl ?_
  refine pw_iaN (n := i) d_RW_swap_aII_2 hk (by omega) (by decide) ?_
  refine pw_istore_n d_RW_swap_aII_3 (by decide) ?_
  dsimp only [stL, kil, isL, cat]
  refine pw_aload_n d_RW_swap_aII_4 rfl ?_
  refine pw_iload_n d_RW_swap_aII_5 rfl ?_
  refine pw_aload_n d_RW_swap_aII_6 rfl ?_
  refine pw_iload_n d_RW_swap_aII_7 rfl ?_
  refine pw_iconst 1 d_RW_swap_aII_8 (by decide) ?_
  refine pw_iadd d_RW_swap_aII_9 ?_
  rw [nI_1]
  refine pw_iaN (n := i + 1) d_RW_swap_aII_10 hk (by omega) (by decide) ?_
  refine pw_isN (n := i) d_RW_swap_aII_11 hk (by omega) (by decide) ?_
  refine pw_aload_n d_RW_swap_aII_12 rfl ?_
  refine pw_iload_n d_RW_swap_aII_13 rfl ?_
  refine pw_iconst 1 d_RW_swap_aII_14 (by decide) ?_
  refine pw_iadd d_RW_swap_aII_15 ?_
  rw [nI_1]
  refine pw_iload_n d_RW_swap_aII_16 rfl ?_
  refine pw_isN (n := i + 1) d_RW_swap_aII_17 hk (by omega) (by decide) ?_
  refine pw_return d_RW_swap_aII_18 rfl ?_ ?_
  · rfl
  · have e : ∀ x y, sI (sI M k i x) k (i + 1) y = oI M k (up (up (M.1 k) i x) (i + 1) y) := fun x y => by
      rw [← sI_oI, ← sI_oI, oI_self]
    rw [e]
    rfl
/-- a long array of a cell, whole -/
def oL (M : Mem) (k : KK) (f : Nat → Int64) : Mem := (M.1, fun q j => if q = k then f j else M.2.1 q j, M.2.2)
theorem oL_self {k : KK} : oL M k (M.2.1 k) = M := by
  unfold oL
  refine Prod.ext rfl (Prod.ext ?_ rfl)
  funext q j
  show ite _ _ _ = _
  by_cases h : q = k
  · rw [if_pos h, h]
  · rw [if_neg h]
theorem sL_oL {k : KK} {f : Nat → Int64} {j : Nat} {x : Int64} : sL (oL M k f) k j x = oL M k (up f j x) := by
  unfold sL oL up
  refine Prod.ext rfl (Prod.ext ?_ rfl)
  funext q i
  show ite _ _ (ite _ _ _) = ite _ (ite _ _ _) _
  by_cases h : q = k
  · by_cases h2 : i = j
    · simp [h, h2]
    · simp [h, h2]
  · simp [h]
theorem pm_swapL (k : KK) (hk : shp k = (2, 8)) (i : Nat) (hi : i + 1 < 8) : PM G l m_RW_swap_aJI [vR (some k), vI (nI i)] M rV (oL M k (sw (M.2.1 k) i)) 0 0 := by
  refine pm_in [some (vR (some k)), some (vI (nI i)), none, none] rfl ?_
  refine pw_aload_n d_RW_swap_aJI_0 rfl ?_
  refine pw_iload_n d_RW_swap_aJI_1 rfl ?_
  refine pw_laN (n := i) d_RW_swap_aJI_2 hk (by omega) (by decide) ?_
  refine pw_lstore_n d_RW_swap_aJI_3 (by decide) ?_
  dsimp only [stL, kil, isL, cat]
  refine pw_aload_n d_RW_swap_aJI_4 rfl ?_
  refine pw_iload_n d_RW_swap_aJI_5 rfl ?_
  refine pw_aload_n d_RW_swap_aJI_6 rfl ?_
  refine pw_iload_n d_RW_swap_aJI_7 rfl ?_
  refine pw_iconst 1 d_RW_swap_aJI_8 (by decide) ?_
  refine pw_iadd d_RW_swap_aJI_9 ?_
  rw [nI_1]
  refine pw_laN (n := i + 1) d_RW_swap_aJI_10 hk (by omega) (by decide) ?_
  refine pw_lsN (n := i) d_RW_swap_aJI_11 hk (by omega) (by decide) ?_
  refine pw_aload_n d_RW_swap_aJI_12 rfl ?_
  refine pw_iload_n d_RW_swap_aJI_13 rfl ?_
  refine pw_iconst 1 d_RW_swap_aJI_14 (by decide) ?_
  refine pw_iadd d_RW_swap_aJI_15 ?_
  rw [nI_1]
  refine pw_lload_n d_RW_swap_aJI_16 rfl ?_
  refine pw_lsN (n := i + 1) d_RW_swap_aJI_17 hk (by omega) (by decide) ?_
  refine pw_return d_RW_swap_aJI_18 rfl ?_ ?_
  · rfl
  · have e : ∀ x y, sL (sL M k i x) k (i + 1) y = oL M k (up (up (M.2.1 k) i x) (i + 1) y) := fun x y => by
      rw [← sL_oL, ← sL_oL, oL_self]
    rw [e]
    rfl
theorem o_ra9 {f g f' : Nat → Int32} {a b c : Nat → Int64} : oI (ra M f g a b c) (0, 9) f' = ra M f' g a b c := by
  unfold oI ra
  refine Prod.ext ?_ rfl
  funext q i
  show ite _ _ (ite _ _ _) = ite _ _ _
  by_cases h : q = (0, 9) <;> simp [h]
theorem o_ra10 {f g f' : Nat → Int32} {a b c : Nat → Int64} : oI (ra M f g a b c) (0, 10) f' = ra M f f' a b c := by
  unfold oI ra
  refine Prod.ext ?_ rfl
  funext q i
  show ite _ _ (ite _ _ (ite _ _ _)) = ite _ _ (ite _ _ _)
  by_cases h : q = (0, 10) <;> simp [h]
theorem o_ra11 {f g : Nat → Int32} {a b c f' : Nat → Int64} : oL (ra M f g a b c) (0, 11) f' = ra M f g f' b c := by
  unfold oL ra
  refine Prod.ext rfl (Prod.ext ?_ rfl)
  funext q i
  show ite _ _ (ite _ _ _) = ite _ _ _
  by_cases h : q = (0, 11) <;> simp [h]
theorem o_ra12 {f g : Nat → Int32} {a b c f' : Nat → Int64} : oL (ra M f g a b c) (0, 12) f' = ra M f g a f' c := by
  unfold oL ra
  refine Prod.ext rfl (Prod.ext ?_ rfl)
  funext q i
  show ite _ _ (ite _ _ (ite _ _ _)) = ite _ _ (ite _ _ _)
  by_cases h : q = (0, 12) <;> simp [h]
theorem o_ra13 {f g : Nat → Int32} {a b c f' : Nat → Int64} : oL (ra M f g a b c) (0, 13) f' = ra M f g a b f' := by
  unfold oL ra
  refine Prod.ext rfl (Prod.ext ?_ rfl)
  funext q i
  show ite _ _ (ite _ _ (ite _ _ (ite _ _ _))) = ite _ _ (ite _ _ (ite _ _ _))
  by_cases h : q = (0, 13) <;> simp [h]
theorem pm_swapN (hM : M.2.2.1 = rf) (i : Nat) (hi : i + 1 < 8) : PM G l m_RW_swapWithNext [vR (some RWK), vI (nI i)] M rV (ra M (sw (M.1 (0, 9)) i) (sw (M.1 (0, 10)) i) (sw (M.2.1 (0, 11)) i) (sw (M.2.1 (0, 12)) i) (sw (M.2.1 (0, 13)) i)) 0 0 := by
  have hr : ∀ f g a b c, (ra M f g a b c).2.2.1 = rf := fun _ _ _ _ _ => hM
  have key : ∀ f g a b c, PW G l m_RW_swapWithNext 0 [some (vR (some RWK)), some (vI (nI i))] [] (ra M f g a b c) rV (ra M (sw f i) (sw g i) (sw a i) (sw b i) (sw c i)) 0 0 := by
    intro f g a b c
    refine pw_aload_n d_RW_swapWithNext_0 rfl ?_
    refine pw_getR d_RW_swapWithNext_1 f_RW_9 rfl rfl (rfO (hr _ _ _ _ _) rfl) ?_
    refine pw_iload_n d_RW_swapWithNext_4 rfl ?_
    refine c_RW_swapWithNext_5 (Nat.le_of_ble_eq_true rfl) (pm_swapI _ rfl i hi) ?_
    rw [o_ra9, ra_9]
    refine pw_aload_n d_RW_swapWithNext_8 rfl ?_
    refine pw_getR d_RW_swapWithNext_9 f_RW_15 rfl rfl (rfO (hr _ _ _ _ _) rfl) ?_
    refine pw_iload_n d_RW_swapWithNext_12 rfl ?_
    refine c_RW_swapWithNext_13 (Nat.le_of_ble_eq_true rfl) (pm_swapI _ rfl i hi) ?_
    rw [o_ra10, ra_10]
    refine pw_aload_n d_RW_swapWithNext_16 rfl ?_
    refine pw_getR d_RW_swapWithNext_17 f_RW_18 rfl rfl (rfO (hr _ _ _ _ _) rfl) ?_
    refine pw_iload_n d_RW_swapWithNext_20 rfl ?_
    refine c_RW_swapWithNext_21 (Nat.le_of_ble_eq_true rfl) (pm_swapL _ rfl i hi) ?_
    rw [o_ra11, ra_11]
    refine pw_aload_n d_RW_swapWithNext_24 rfl ?_
    refine pw_getR d_RW_swapWithNext_25 f_RW_22 rfl rfl (rfO (hr _ _ _ _ _) rfl) ?_
    refine pw_iload_n d_RW_swapWithNext_28 rfl ?_
    refine c_RW_swapWithNext_29 (Nat.le_of_ble_eq_true rfl) (pm_swapL _ rfl i hi) ?_
    rw [o_ra12, ra_12]
    refine pw_aload_n d_RW_swapWithNext_32 rfl ?_
    refine pw_getR d_RW_swapWithNext_33 f_RW_25 rfl rfl (rfO (hr _ _ _ _ _) rfl) ?_
    refine pw_iload_n d_RW_swapWithNext_36 rfl ?_
    refine c_RW_swapWithNext_37 (Nat.le_of_ble_eq_true rfl) (pm_swapL _ rfl i hi) ?_
    rw [o_ra13, ra_13]
    refine pw_return d_RW_swapWithNext_40 rfl ?_ ?_
    · rfl
    · rfl
  refine pm_in [some (vR (some RWK)), some (vI (nI i))] rfl ?_
  have q := key (M.1 (0, 9)) (M.1 (0, 10)) (M.2.1 (0, 11)) (M.2.1 (0, 12)) (M.2.1 (0, 13))
  rw [ra_self] at q
  exact q
theorem row_swap {s1 r : List Nat} {x y : Nat} (hR : RowL V M (s1 ++ y :: x :: r)) : RowL V (ra M (sw (M.1 (0, 9)) s1.length) (sw (M.1 (0, 10)) s1.length) (sw (M.2.1 (0, 11)) s1.length) (sw (M.2.1 (0, 12)) s1.length) (sw (M.2.1 (0, 13)) s1.length)) (s1 ++ x :: y :: r) := by
  obtain ⟨h1, h2, h3⟩ := hR
  have hl : (s1 ++ x :: y :: r).length = (s1 ++ y :: x :: r).length := by simp
  refine ⟨by rw [ra_8, h1, hl], by rw [hl]; exact h2, ?_⟩
  intro j z hz
  rw [ra_9, ra_10, ra_11, ra_12, ra_13]
  unfold sw up
  by_cases e1 : j = s1.length + 1
  · subst e1
    simp only [if_true]
    have : z = y := by
      rw [List.getElem?_append_right (by omega)] at hz
      simp at hz
      exact hz.symm
    subst this
    exact h3 s1.length z (by rw [List.getElem?_append_right (by omega)]; simp)
  · by_cases e2 : j = s1.length
    · subst e2
      simp only [show ¬ s1.length = s1.length + 1 by omega, if_true, if_false]
      have : z = x := by
        rw [List.getElem?_append_right (by omega)] at hz
        simp at hz
        exact hz.symm
      subst this
      exact h3 (s1.length + 1) z (by rw [List.getElem?_append_right (by omega)]; simp)
    · simp only [e1, e2, if_false]
      refine h3 j z ?_
      by_cases e3 : j < s1.length
      · rw [List.getElem?_append_left e3] at hz ⊢
        exact hz
      · rw [List.getElem?_append_right (by omega)] at hz ⊢
        obtain ⟨k, hk⟩ : ∃ k, j - s1.length = k + 2 := ⟨j - s1.length - 2, by omega⟩
        rw [hk] at hz ⊢
        simpa using hz
end RW3
