/-! the class: a sample is added -/
/-- the arrays of a peer -/
def pa (M : Mem) (p : Nat) (a b d : Nat → Int64) (t : Nat → Int32) : Mem := (fun q j => if q = (p + 1, 4) then t j else M.1 q j, fun q j => if q = (p + 1, 1) then a j else if q = (p + 1, 2) then b j else if q = (p + 1, 3) then d j else M.2.1 q j, M.2.2)
section PA
variable {M : Mem} {p : Nat} {a b d : Nat → Int64} {t : Nat → Int32} {j : Nat} {x : Int64} {y : Int32}
theorem pa_self : pa M p (M.2.1 (p + 1, 1)) (M.2.1 (p + 1, 2)) (M.2.1 (p + 1, 3)) (M.1 (p + 1, 4)) = M := by
  unfold pa
  refine Prod.ext ?_ (Prod.ext ?_ rfl)
  · funext q j
    show ite _ _ _ = _
    by_cases h : q = (p + 1, 4)
    · rw [if_pos h, h]
    · rw [if_neg h]
  · funext q j
    show ite _ _ (ite _ _ (ite _ _ _)) = _
    by_cases h : q = (p + 1, 1)
    · rw [if_pos h, h]
    · rw [if_neg h]
      by_cases h2 : q = (p + 1, 2)
      · rw [if_pos h2, h2]
      · rw [if_neg h2]
        by_cases h3 : q = (p + 1, 3)
        · rw [if_pos h3, h3]
        · rw [if_neg h3]
theorem pa_1 : (pa M p a b d t).2.1 (p + 1, 1) = a := by funext j; simp [pa]
theorem pa_2 : (pa M p a b d t).2.1 (p + 1, 2) = b := by funext j; simp [pa]
theorem pa_3 : (pa M p a b d t).2.1 (p + 1, 3) = d := by funext j; simp [pa]
theorem pa_4 : (pa M p a b d t).1 (p + 1, 4) = t := by funext j; simp [pa]
theorem sL_pa1 : sL (pa M p a b d t) (p + 1, 1) j x = pa M p (up a j x) b d t := by
  unfold sL pa up
  refine Prod.ext rfl (Prod.ext ?_ rfl)
  funext q i
  show ite _ _ (ite _ _ _) = ite _ (ite _ _ _) _
  by_cases h : q = (p + 1, 1)
  · by_cases h2 : i = j <;> simp [h, h2]
  · simp [h]
theorem sL_pa2 : sL (pa M p a b d t) (p + 1, 2) j x = pa M p a (up b j x) d t := by
  unfold sL pa up
  refine Prod.ext rfl (Prod.ext ?_ rfl)
  funext q i
  show ite _ _ (ite _ _ (ite _ _ _)) = ite _ _ (ite _ (ite _ _ _) _)
  by_cases h : q = (p + 1, 2)
  · by_cases h2 : i = j <;> simp [h, h2]
  · simp [h]
theorem sL_pa3 : sL (pa M p a b d t) (p + 1, 3) j x = pa M p a b (up d j x) t := by
  unfold sL pa up
  refine Prod.ext rfl (Prod.ext ?_ rfl)
  funext q i
  show ite _ _ (ite _ _ (ite _ _ (ite _ _ _))) = ite _ _ (ite _ _ (ite _ (ite _ _ _) _))
  by_cases h : q = (p + 1, 3)
  · by_cases h2 : i = j <;> simp [h, h2]
  · simp [h]
theorem sI_pa4 : sI (pa M p a b d t) (p + 1, 4) j y = pa M p a b d (up t j y) := by
  unfold sI pa up
  refine Prod.ext ?_ rfl
  funext q i
  show ite _ _ (ite _ _ _) = ite _ (ite _ _ _) _
  by_cases h : q = (p + 1, 4)
  · by_cases h2 : i = j <;> simp [h, h2]
  · simp [h]
end PA
def shF {α : Type} (f : Nat → α) (c : Nat) (x : α) : Nat → α := up (mv f 0 (c - 1)) 0 x
section AD
variable {G : GG} {l : Launch} {M : Mem}
theorem lp_shift (hM : M.2.2.1 = rf) (p n : Nat) (hn : n < 8) (A B D : Nat → Int64) (T : Nat → Int32) (x y : Int64) (u : Int32) (M' : Mem)
    (hend : PW G l m_PE_addSample 98 [some (vR (some (PEK p))), some (vL x), none, some (vL y), none, some (vI u), some (vI 0)] [] (pa M p (mv A 0 n) (mv B 0 n) (mv D 0 n) (mv T 0 n)) rV M' 0 0) :
    ∀ i, i ≤ n → PW G l m_PE_addSample 23 [some (vR (some (PEK p))), some (vL x), none, some (vL y), none, some (vI u), some (vI (nI i))] [] (pa M p (mv A i n) (mv B i n) (mv D i n) (mv T i n)) rV M' 0 0 := by
  intro i
  induction i with
  | zero =>
    intro _
    refine pw_iload d_PE_addSample_23 rfl ?_
    refine pw_if_le (tgt := 98) d_PE_addSample_25 (by decide) (fun _ => ?_) (fun h => absurd ((by decide)) h)
    exact hend
  | succ i ih =>
    intro hi
    have hq := ih (by omega)
    have hr : ∀ a b d t, (pa M p a b d t).2.2.1 = rf := fun _ _ _ _ => hM
    refine pw_iload d_PE_addSample_23 rfl ?_
    refine pw_if_le (tgt := 98) d_PE_addSample_25 (by decide) (fun h => absurd h (nI_nle (by omega) (by omega))) (fun _ => ?_)
    refine pw_aload_n d_PE_addSample_28 rfl ?_
    refine pw_getR d_PE_addSample_29 f_PE_9 rfl rfl (rfO (hr _ _ _ _) rfl) ?_
    refine pw_iload d_PE_addSample_32 rfl ?_
    refine pw_aload_n d_PE_addSample_34 rfl ?_
    refine pw_getR d_PE_addSample_35 f_PE_9 rfl rfl (rfO (hr _ _ _ _) rfl) ?_
    refine pw_iload d_PE_addSample_38 rfl ?_
    refine pw_iconst 1 d_PE_addSample_40 (by decide) ?_
    refine pw_isub d_PE_addSample_41 ?_
    rw [nI_pred]
    refine pw_laN (n := i) d_PE_addSample_42 rfl (by omega) (by decide) ?_
    refine pw_lsN (n := i + 1) d_PE_addSample_43 rfl (by omega) (by decide) ?_
    rw [pa_1, sL_pa1]
    refine pw_aload_n d_PE_addSample_44 rfl ?_
    refine pw_getR d_PE_addSample_45 f_PE_15 rfl rfl (rfO (hr _ _ _ _) rfl) ?_
    refine pw_iload d_PE_addSample_48 rfl ?_
    refine pw_aload_n d_PE_addSample_50 rfl ?_
    refine pw_getR d_PE_addSample_51 f_PE_15 rfl rfl (rfO (hr _ _ _ _) rfl) ?_
    refine pw_iload d_PE_addSample_54 rfl ?_
    refine pw_iconst 1 d_PE_addSample_56 (by decide) ?_
    refine pw_isub d_PE_addSample_57 ?_
    rw [nI_pred]
    refine pw_laN (n := i) d_PE_addSample_58 rfl (by omega) (by decide) ?_
    refine pw_lsN (n := i + 1) d_PE_addSample_59 rfl (by omega) (by decide) ?_
    rw [pa_2, sL_pa2]
    refine pw_aload_n d_PE_addSample_60 rfl ?_
    refine pw_getR d_PE_addSample_61 f_PE_18 rfl rfl (rfO (hr _ _ _ _) rfl) ?_
    refine pw_iload d_PE_addSample_64 rfl ?_
    refine pw_aload_n d_PE_addSample_66 rfl ?_
    refine pw_getR d_PE_addSample_67 f_PE_18 rfl rfl (rfO (hr _ _ _ _) rfl) ?_
    refine pw_iload d_PE_addSample_70 rfl ?_
    refine pw_iconst 1 d_PE_addSample_72 (by decide) ?_
    refine pw_isub d_PE_addSample_73 ?_
    rw [nI_pred]
    refine pw_laN (n := i) d_PE_addSample_74 rfl (by omega) (by decide) ?_
    refine pw_lsN (n := i + 1) d_PE_addSample_75 rfl (by omega) (by decide) ?_
    rw [pa_3, sL_pa3]
    refine pw_aload_n d_PE_addSample_76 rfl ?_
    refine pw_getR d_PE_addSample_77 f_PE_21 rfl rfl (rfO (hr _ _ _ _) rfl) ?_
    refine pw_iload d_PE_addSample_80 rfl ?_
    refine pw_aload_n d_PE_addSample_82 rfl ?_
    refine pw_getR d_PE_addSample_83 f_PE_21 rfl rfl (rfO (hr _ _ _ _) rfl) ?_
    refine pw_iload d_PE_addSample_86 rfl ?_
    refine pw_iconst 1 d_PE_addSample_88 (by decide) ?_
    refine pw_isub d_PE_addSample_89 ?_
    rw [nI_pred]
    refine pw_iaN (n := i) d_PE_addSample_90 rfl (by omega) (by decide) ?_
    refine pw_isN (n := i + 1) d_PE_addSample_91 rfl (by omega) (by decide) ?_
    rw [pa_4, sI_pa4]
    refine pw_iinc (-1) d_PE_addSample_92 rfl (by decide) (by decide) ?_
    dsimp only [stL, kil, isL, cat]
    refine pw_goto (tgt := 23) d_PE_addSample_95 (by decide) ?_
    rw [i32_m1, nI_pred]
    have e : ∀ {α : Type} (f : Nat → α), up (mv f (i + 1) n) (i + 1) (mv f (i + 1) n i) = mv f i n := fun f => mv_step f (i + 1) n (by omega) hi
    rw [e, e, e, e]
    exact hq
/-- a peer with one sample more -/
def adM (M : Mem) (p c : Nat) (x y : Int64) (u : Int32) (o : Nat → Int32) : Mem :=
  sL (oI (pa (sI M (PEK p) 6 (nI c)) p (shF (M.2.1 (p + 1, 1)) c x) (shF (M.2.1 (p + 1, 2)) c y) (shF (M.2.1 (p + 1, 3)) c (16384 + y / 65536)) (shF (M.1 (p + 1, 4)) c u)) (p + 1, 5) o) (PEK p) 7
    (mx14 (spV (shF (M.2.1 (p + 1, 1)) c x) (shF (M.2.1 (p + 1, 1)) c x (tn (o 0))) (o 0) c))
theorem pm_addSample (hM : M.2.2.1 = rf) (p c : Nat) (hc : c ≤ 8) (hC : M.1 (PEK p) 6 = nI c) (x y : Int64) (u : Int32) (c' : Nat) (hc' : c' = if c < 8 then c + 1 else 8)
    (hR : ∀ k, k < c' → ¬ spC (nI k) c' = 0 → 0 ≤ (spS (shF (M.2.1 (p + 1, 1)) c' x) (shF (M.2.1 (p + 1, 1)) c' x k) (nI k) c' / lN (spC (nI k) c')).toInt ∧ (spS (shF (M.2.1 (p + 1, 1)) c' x) (shF (M.2.1 (p + 1, 1)) c' x k) (nI k) c' / lN (spC (nI k) c')).toInt < 2 ^ 62) :
    ∃ o', SO (shF (M.2.1 (p + 1, 2)) c' y) c' o' ∧ PM G l m_PE_addSample [vR (some (PEK p)), vL x, vL y, vI u] M rV (adM M p c' x y u o') 0 0 := by
  have h1 : 0 < c' := by rw [hc']; split <;> omega
  have h8 : c' ≤ 8 := by rw [hc']; split <;> omega
  have hr : ∀ (N : Mem) p a b d t, N.2.2.1 = rf → (pa N p a b d t).2.2.1 = rf := fun _ _ _ _ _ _ h => h
  obtain ⟨o', hS, hw⟩ := pm_sortSamples (G := G) (l := l) (M := pa (sI M (PEK p) 6 (nI c')) p (shF (M.2.1 (p + 1, 1)) c' x) (shF (M.2.1 (p + 1, 2)) c' y) (shF (M.2.1 (p + 1, 3)) c' (16384 + y / 65536)) (shF (M.1 (p + 1, 4)) c' u)) hM p c' h8 (by simp [pa, sI])
  rw [pa_2] at hS
  refine ⟨o', hS, ?_⟩
  refine pm_in [some (vR (some (PEK p))), some (vL x), none, some (vL y), none, some (vI u), none] rfl ?_
  refine pw_aload_n d_PE_addSample_0 rfl ?_
  refine pw_bipush (8) d_PE_addSample_1 (by decide) ?_
  refine pw_aload_n d_PE_addSample_3 rfl ?_
  refine pw_getI d_PE_addSample_4 f_PE_39 rfl rfl ?_
  rw [hC]
  refine pw_iconst 1 d_PE_addSample_7 (by decide) ?_
  refine pw_iadd d_PE_addSample_8 ?_
  rw [nI_1]
  refine c_PE_addSample_9 (Nat.le_of_ble_eq_true rfl) (pm_min_II _ _) ?_
  rw [show (if nI (c + 1) < 8 then nI (c + 1) else (8 : Int32)) = nI c' from ?_]
  · refine pw_putI d_PE_addSample_12 f_PE_39 rfl rfl rfl ?_
    refine pw_aload_n d_PE_addSample_15 rfl ?_
    refine pw_getI d_PE_addSample_16 f_PE_39 rfl rfl ?_
    rw [sI_s]
    refine pw_iconst 1 d_PE_addSample_19 (by decide) ?_
    refine pw_isub d_PE_addSample_20 ?_
    rw [show nI c' - 1 = nI (c' - 1) from pk_sub (b := 1) h1]
    refine pw_istore d_PE_addSample_21 (by decide) ?_
    dsimp only [stL, kil, isL, cat]
    have h := lp_shift (G := G) (l := l) (M := sI M (PEK p) 6 (nI c')) hM p (c' - 1) (by omega) (M.2.1 (p + 1, 1)) (M.2.1 (p + 1, 2)) (M.2.1 (p + 1, 3)) (M.1 (p + 1, 4)) x y u (adM M p c' x y u o') ?_ (c' - 1) (Nat.le_refl _)
    · rw [mv_i, mv_i, mv_i, mv_i] at h
      have e : pa (sI M (PEK p) 6 (nI c')) p (M.2.1 (p + 1, 1)) (M.2.1 (p + 1, 2)) (M.2.1 (p + 1, 3)) (M.1 (p + 1, 4)) = sI M (PEK p) 6 (nI c') := by
        have := pa_self (M := sI M (PEK p) 6 (nI c')) (p := p)
        rw [show (sI M (PEK p) 6 (nI c')).1 (p + 1, 4) = M.1 (p + 1, 4) from by funext j; simp [sI]] at this
        exact this
      rw [e] at h
      exact h
    · refine pw_aload_n d_PE_addSample_98 rfl ?_
      refine pw_getR d_PE_addSample_99 f_PE_9 rfl rfl (rfO hM rfl) ?_
      refine pw_iconst 0 d_PE_addSample_102 (by decide) ?_
      refine pw_lload_n d_PE_addSample_103 rfl ?_
      refine pw_lsN (n := 0) d_PE_addSample_104 rfl (by omega) (by decide) ?_
      rw [sL_pa1]
      refine pw_aload_n d_PE_addSample_105 rfl ?_
      refine pw_getR d_PE_addSample_106 f_PE_15 rfl rfl (rfO (hr _ _ _ _ _ _ hM) rfl) ?_
      refine pw_iconst 0 d_PE_addSample_109 (by decide) ?_
      refine pw_lload_n d_PE_addSample_110 rfl ?_
      refine pw_lsN (n := 0) d_PE_addSample_111 rfl (by omega) (by decide) ?_
      rw [sL_pa2]
      refine pw_aload_n d_PE_addSample_112 rfl ?_
      refine pw_getR d_PE_addSample_113 f_PE_18 rfl rfl (rfO (hr _ _ _ _ _ _ hM) rfl) ?_
      refine pw_iconst 0 d_PE_addSample_116 (by decide) ?_
      refine pw_ldc2 (16384) d_PE_addSample_117 g511 ?_
      refine pw_lload_n d_PE_addSample_120 rfl ?_
      refine pw_ldc2 (65536) d_PE_addSample_121 g512 ?_
      refine pw_ldiv d_PE_addSample_124 (by decide) ?_
      refine pw_ladd d_PE_addSample_125 ?_
      refine pw_lsN (n := 0) d_PE_addSample_126 rfl (by omega) (by decide) ?_
      rw [sL_pa3]
      refine pw_aload_n d_PE_addSample_127 rfl ?_
      refine pw_getR d_PE_addSample_128 f_PE_21 rfl rfl (rfO (hr _ _ _ _ _ _ hM) rfl) ?_
      refine pw_iconst 0 d_PE_addSample_131 (by decide) ?_
      refine pw_iload d_PE_addSample_132 rfl ?_
      refine pw_isN (n := 0) d_PE_addSample_134 rfl (by omega) (by decide) ?_
      rw [sI_pa4]
      refine pw_aload_n d_PE_addSample_135 rfl ?_
      refine c_PE_addSample_136 rfl (Nat.le_of_ble_eq_true rfl) hw ?_
      have hN : (oI (pa (sI M (PEK p) 6 (nI c')) p (shF (M.2.1 (p + 1, 1)) c' x) (shF (M.2.1 (p + 1, 2)) c' y) (shF (M.2.1 (p + 1, 3)) c' (16384 + y / 65536)) (shF (M.1 (p + 1, 4)) c' u)) (p + 1, 5) o').2.2.1 = rf := hM
      have ho : oOK (oI (pa (sI M (PEK p) 6 (nI c')) p (shF (M.2.1 (p + 1, 1)) c' x) (shF (M.2.1 (p + 1, 2)) c' y) (shF (M.2.1 (p + 1, 3)) c' (16384 + y / 65536)) (shF (M.1 (p + 1, 4)) c' u)) (p + 1, 5) o') p c' (fun pl => tn (o' pl)) := by
        intro pl hpl
        obtain ⟨g1, g2, g3⟩ := hS pl hpl
        rw [oI_at]
        exact ⟨g2, Nat.lt_of_lt_of_le g1 h8⟩
      obtain ⟨g1, g2, g3⟩ := hS 0 h1
      have hC2 : (oI (pa (sI M (PEK p) 6 (nI c')) p (shF (M.2.1 (p + 1, 1)) c' x) (shF (M.2.1 (p + 1, 2)) c' y) (shF (M.2.1 (p + 1, 3)) c' (16384 + y / 65536)) (shF (M.1 (p + 1, 4)) c' u)) (p + 1, 5) o').1 (PEK p) 6 = nI c' := by simp [oI, pa, sI]
      have h11 : (oI (pa (sI M (PEK p) 6 (nI c')) p (shF (M.2.1 (p + 1, 1)) c' x) (shF (M.2.1 (p + 1, 2)) c' y) (shF (M.2.1 (p + 1, 3)) c' (16384 + y / 65536)) (shF (M.1 (p + 1, 4)) c' u)) (p + 1, 5) o').2.1 (p + 1, 1) = shF (M.2.1 (p + 1, 1)) c' x := pa_1 (t := shF (M.1 (p + 1, 4)) c' u)
      refine pw_aload_n d_PE_addSample_139 rfl ?_
      refine pw_ldc2 (16384) d_PE_addSample_140 g511 ?_
      refine pw_aload_n d_PE_addSample_143 rfl ?_
      refine pw_getR d_PE_addSample_144 f_PE_9 rfl rfl (rfO hN rfl) ?_
      refine pw_aload_n d_PE_addSample_147 rfl ?_
      refine pw_getI d_PE_addSample_148 f_PE_39 rfl rfl ?_
      rw [hC2]
      refine pw_aload_n d_PE_addSample_151 rfl ?_
      refine pw_iconst 0 d_PE_addSample_152 (by decide) ?_
      refine c_PE_addSample_153 rfl (Nat.le_of_ble_eq_true rfl) (pm_offsetAt hN p c' _ ho 0 h1 h8) ?_
      rw [h11]
      refine pw_aload_n d_PE_addSample_156 rfl ?_
      refine pw_getR d_PE_addSample_157 f_PE_25 rfl rfl (rfO hN rfl) ?_
      refine pw_iconst 0 d_PE_addSample_160 (by decide) ?_
      refine pw_iaN (n := 0) d_PE_addSample_161 rfl (by omega) (by decide) ?_
      rw [oI_at]
      have hsp := pm_spread (G := G) (l := l) (M := oI (pa (sI M (PEK p) 6 (nI c')) p (shF (M.2.1 (p + 1, 1)) c' x) (shF (M.2.1 (p + 1, 2)) c' y) (shF (M.2.1 (p + 1, 3)) c' (16384 + y / 65536)) (shF (M.1 (p + 1, 4)) c' u)) (p + 1, 5) o') (p + 1, 1) rfl c' h8 (shF (M.2.1 (p + 1, 1)) c' x (tn (o' 0))) (o' 0) (by rw [h11, g2, tn_nI (by omega)]; exact hR _ g1)
      rw [h11] at hsp
      refine c_PE_addSample_162 (Nat.le_of_ble_eq_true rfl) hsp ?_
      refine c_PE_addSample_165 (Nat.le_of_ble_eq_true rfl) (pm_max_JJ _ _) ?_
      rw [mx14_max]
      refine pw_putL d_PE_addSample_168 f_PE_67 rfl rfl rfl ?_
      refine pw_return d_PE_addSample_171 rfl ?_ ?_
      · rfl
      · rfl
  · rw [hc']
    by_cases h : c < 8
    · rw [if_pos h]
      by_cases h7 : c < 7
      · exact if_pos (nI_lt (b := 8) (by omega) (by decide))
      · have : c = 7 := by omega
        subst this; rfl
    · have : c = 8 := by omega
      subst this; rfl
end AD
