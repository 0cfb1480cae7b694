/-! the take, whole, on both sides; what is forgotten -/
section TK9
variable {G : GG} {l : Launch} {M : Mem}
theorem lp_mdown (hM : M.2.2.1 = rf) (p : Nat) (hp : p < 8) (M' : Mem) (A B D : Nat → Int64) (T : Nat → Int32)
    (hend : PW G l m_MO_take 43 [some (vR (some MK)), some (vI (nI p)), some (vI (nI 8)), none, none, none, none, none, none] [] (ma M (dn A p 8) (dn B p 8) (dn D p 8) (dn T p 8)) rV M' 0 0) :
    ∀ k, k ≤ 8 → 1 ≤ k → PW G l m_MO_take 13 [some (vR (some MK)), some (vI (nI p)), some (vI (nI k)), none, none, none, none, none, none] [] (ma M (dn A p k) (dn B p k) (dn D p k) (dn T p k)) rV M' 0 0 := by
  refine lpU ?_ ?_
  · intro _
    refine pw_iload_n d_MO_take_13 rfl ?_
    refine pw_bipush (8) d_MO_take_14 (by decide) ?_
    refine pw_icmp_ge (tgt := 43) d_MO_take_16 (by decide) (fun _ => ?_) (fun hQ => absurd (nI_le (a := 8) (b := 8) (by omega) (by omega)) hQ)
    exact hend
  · intro k hk ih h1
    refine pw_iload_n d_MO_take_13 rfl ?_
    refine pw_bipush (8) d_MO_take_14 (by decide) ?_
    refine pw_icmp_ge (tgt := 43) d_MO_take_16 (by decide) (fun hQ => absurd hQ (nI_ge (b := 8) hk (by omega))) (fun _ => ?_)
    refine pw_aload_n d_MO_take_19 rfl ?_
    refine pw_aload_n d_MO_take_20 rfl ?_
    refine pw_iload_n d_MO_take_21 rfl ?_
    refine pw_iload_n d_MO_take_22 rfl ?_
    refine c_MO_take_23 rfl (Nat.le_of_ble_eq_true rfl) (mo_sampleN p k) ?_
    refine pw_aload_n d_MO_take_26 rfl ?_
    refine pw_iload_n d_MO_take_27 rfl ?_
    refine pw_iload_n d_MO_take_28 rfl ?_
    refine pw_iconst 1 d_MO_take_29 (by decide) ?_
    refine pw_isub d_MO_take_30 ?_
    rw [show nI k - 1 = nI (k - 1) from pk_sub (b := 1) h1]
    refine c_MO_take_31 rfl (Nat.le_of_ble_eq_true rfl) (mo_sampleN p (k - 1)) ?_
    refine c_MO_take_34 rfl (Nat.le_of_ble_eq_true rfl) (mo_move hM _ _ _ _ (8 * p + k) (8 * p + (k - 1)) (by omega) (by omega)) ?_
    refine pw_iinc (1) d_MO_take_37 rfl (by decide) (by decide) ?_
    dsimp only [stL, kil, isL, cat]
    refine pw_goto (tgt := 13) d_MO_take_40 (by decide) ?_
    rw [nI_1]
    have e : ∀ {α : Type} (f : Nat → α), up (dn f p k) (8 * p + (k - 1)) (dn f p k (8 * p + k)) = dn f p (k + 1) := fun f => by
      have := dn_step f p k h1
      rw [show 8 * p + k - 1 = 8 * p + (k - 1) by omega] at this
      exact this
    rw [e, e, e, e]
    exact ih (by omega)
/-- the take: c samples before -/
def d8 {α : Type} (f : Nat → α) (p c : Nat) : Nat → α := if c < 8 then f else dn f p 8
def c8 (c : Nat) : Nat := if c < 8 then c else 7
def tkM (M : Mem) (p c : Nat) : Mem :=
  tkE (sI (ma M (up (d8 (M.2.1 (0, 31)) p c) (8 * p + c8 c) (oNw (rdN (M.1 (0, 21)) 32 8) (rdN (M.1 (0, 21)) 40 8) (M.2.1 (0, 23) p) (M.2.1 MK 5))) (up (d8 (M.2.1 (0, 32)) p c) (8 * p + c8 c) (clp (dNw (rdN (M.1 (0, 21)) 32 8) (rdN (M.1 (0, 21)) 40 8) (M.2.1 (0, 23) p) (M.2.1 MK 5)))) (up (d8 (M.2.1 (0, 33)) p c) (8 * p + c8 c) (16384 + clp (dNw (rdN (M.1 (0, 21)) 32 8) (rdN (M.1 (0, 21)) 40 8) (M.2.1 (0, 23) p) (M.2.1 MK 5)) / 65536)) (up (d8 (M.1 (0, 34)) p c) (8 * p + c8 c) (M.1 MK 6))) (0, 29) p (nI (c8 c + 1))) p (rdN (M.1 (0, 21)) 40 8) (rdN (M.1 (0, 21)) 4 4) (rdN (M.1 (0, 21)) 8 4) (M.1 (0, 21) 1) (M.1 (0, 25) p)
theorem mo_take (hM : M.2.2.1 = rf) (p c : Nat) (hp : p < 8) (hc : c ≤ 8) (hC : M.1 (0, 29) p = nI c) : PM G l m_MO_take [vR (some MK), vI (nI p)] M rV (tkM M p c) 0 0 := by
  refine pm_in [some (vR (some MK)), some (vI (nI p)), none, none, none, none, none, none, none] rfl ?_
  refine pw_aload_n d_MO_take_0 rfl ?_
  refine pw_getR d_MO_take_1 f_MO_35 rfl rfl (rfO hM rfl) ?_
  refine pw_iload_n d_MO_take_4 rfl ?_
  refine pw_iaN (n := p) d_MO_take_5 rfl (by omega) (by decide) ?_
  refine pw_bipush (8) d_MO_take_6 (by decide) ?_
  rw [hC]
  by_cases h : c < 8
  · refine pw_icmp_ne (tgt := 51) d_MO_take_8 (by decide) (fun _ => ?_) (fun hQ => absurd hQ ((fun z => by rw [show (8 : Int32) = nI 8 from rfl, nI_eq (by omega) (by omega)] at z; omega)))
    have q := lp_mtakeT (G := G) (l := l) hM p c hp h (M.2.1 (0, 31)) (M.2.1 (0, 32)) (M.2.1 (0, 33)) (M.1 (0, 34)) none rfl
    rw [show sI (ma M (M.2.1 (0, 31)) (M.2.1 (0, 32)) (M.2.1 (0, 33)) (M.1 (0, 34))) (0, 29) p (nI c) = M from by rw [ma_self, ← hC, sI_self]] at q
    unfold tkM d8 c8
    simp only [h, if_true]
    exact q
  · have e8 : c = 8 := by omega
    subst e8
    refine pw_icmp_ne (tgt := 51) d_MO_take_8 (by decide) (fun hQ => absurd (rfl) hQ) (fun _ => ?_)
    refine pw_iconst 1 d_MO_take_11 (by decide) ?_
    refine pw_istore_n d_MO_take_12 (by decide) ?_
    dsimp only [stL, kil, isL, cat]
    have hr : ∀ (N : Mem) a b d t, N.2.2.1 = rf → (ma N a b d t).2.2.1 = rf := fun _ _ _ _ _ h => h
    have q := lp_mdown (G := G) (l := l) hM p hp (tkM M p 8) (M.2.1 (0, 31)) (M.2.1 (0, 32)) (M.2.1 (0, 33)) (M.1 (0, 34)) ?_ 1 (by omega) (by omega)
    · rw [dn_1, dn_1, dn_1, dn_1, ma_self] at q
      exact q
    · refine pw_aload_n d_MO_take_43 rfl ?_
      refine pw_getR d_MO_take_44 f_MO_35 rfl rfl (rfO (hr _ _ _ _ _ hM) rfl) ?_
      refine pw_iload_n d_MO_take_47 rfl ?_
      refine pw_bipush (7) d_MO_take_48 (by decide) ?_
      refine pw_isN (n := p) d_MO_take_50 rfl (by omega) (by decide) ?_
      exact lp_mtakeT (G := G) (l := l) hM p 7 hp (by omega) _ _ _ _ (some (vI (nI 8))) rfl
/-- the class's take -/
def tkC (M N : Mem) (p : Nat) : Mem := sI (sL (sL (sL (sI (sL N (PEK p) 1 (rdN (M.1 (0, 2)) 40 8)) (PEK p) 3 (M.1 (0, 2) 1)) (PEK p) 4 (rdN (M.1 (0, 2)) 4 4 * 65536)) (PEK p) 5 (rdN (M.1 (0, 2)) 8 4 * 65536)) (PEK p) 0 0) (PEK p) 2 (M.1 (PEK p) 2 ||| 1)
theorem pm_take (hM : M.2.2.1 = rf) (hb : ∀ j, byteOK (M.1 (0, 2) j)) (p c : Nat) (hc : c ≤ 8) (hC : M.1 (PEK p) 6 = nI c) (c' : Nat) (hc' : c' = if c < 8 then c + 1 else 8) (x y : Int64) (hx : x = oNw (rdN (M.1 (0, 2)) 32 8) (rdN (M.1 (0, 2)) 40 8) (M.2.1 (PEK p) 0) (M.2.1 TPK 0)) (hy : y = clp (dNw (rdN (M.1 (0, 2)) 32 8) (rdN (M.1 (0, 2)) 40 8) (M.2.1 (PEK p) 0) (M.2.1 TPK 0)))
    (hR : ∀ k, k < c' → ¬ spC (nI k) c' = 0 → 0 ≤ (spS (shF (M.2.1 (p + 1, 1)) c' x) (shF (M.2.1 (p + 1, 1)) c' x k) (nI k) c' / lN (spC (nI k) c')).toInt ∧ (spS (shF (M.2.1 (p + 1, 1)) c' x) (shF (M.2.1 (p + 1, 1)) c' x k) (nI k) c' / lN (spC (nI k) c')).toInt < 2 ^ 62) :
    ∃ o', SO (shF (M.2.1 (p + 1, 2)) c' y) c' o' ∧ PM G l m_TK_take [vR (some TKK), vR (some (PEK p))] M rV (tkC M (adM M p c' x y (M.1 TPK 1) o') p) 0 0 := by
  obtain ⟨o', hS, ha⟩ := pm_addSample (G := G) (l := l) hM p c hc hC x y (M.1 TPK 1) c' hc' hR
  refine ⟨o', hS, ?_⟩
  refine pm_in [some (vR (some TKK)), some (vR (some (PEK p)))] rfl ?_
  have h1 := pm_toldOffset (G := G) (l := l) hM hb p
  have h2 := pm_toldDelay (G := G) (l := l) hM hb p
  rw [← hx] at h1
  rw [← hy] at h2
  have eN : (adM M p c' x y (M.1 TPK 1) o').2.2.1 = rf := hM
  have eT : (adM M p c' x y (M.1 TPK 1) o').1 (0, 2) = M.1 (0, 2) := by funext j; simp [adM, sL, oI, pa, sI]
  have eR : (adM M p c' x y (M.1 TPK 1) o').1 (PEK p) 2 = M.1 (PEK p) 2 := by simp [adM, sL, oI, pa, sI]
  generalize adM M p c' x y (M.1 TPK 1) o' = N at ha eN eT eR ⊢
  refine pw_aload_n d_TK_take_0 rfl ?_
  refine pw_aload_n d_TK_take_1 rfl ?_
  refine pw_aload_n d_TK_take_2 rfl ?_
  refine c_TK_take_3 rfl (Nat.le_of_ble_eq_true rfl) h1 ?_
  refine pw_aload_n d_TK_take_6 rfl ?_
  refine pw_aload_n d_TK_take_7 rfl ?_
  refine c_TK_take_8 rfl (Nat.le_of_ble_eq_true rfl) h2 ?_
  refine pw_aload_n d_TK_take_11 rfl ?_
  refine pw_getR d_TK_take_12 f_TK_24 rfl rfl (rfO hM rfl) ?_
  refine pw_getI d_TK_take_15 f_TK_77 rfl rfl ?_
  refine c_TK_take_18 rfl (Nat.le_of_ble_eq_true rfl) ha ?_
  have r1 : ∀ (K : Mem), K.1 (0, 2) = M.1 (0, 2) → K.2.2.1 = rf → ∀ a n, a + n ≤ 64 → PM G l m_PK_read [vR (some (0, 1)), vI (nI a), vI (nI n)] K (rL (rdN (M.1 (0, 2)) a n)) K 0 0 := by
    intro K e1 e2 a n h
    have := pm_read (G := G) (l := l) (M := K) e2 (by rw [e1]; exact hb) a n h
    rw [e1] at this
    exact this
  refine pw_aload_n d_TK_take_21 rfl ?_
  refine pw_aload_n d_TK_take_22 rfl ?_
  refine pw_getR d_TK_take_23 f_TK_14 rfl rfl (rfO eN rfl) ?_
  refine pw_bipush (40) d_TK_take_26 (by decide) ?_
  refine pw_bipush (8) d_TK_take_28 (by decide) ?_
  refine c_TK_take_30 rfl (Nat.le_of_ble_eq_true rfl) (r1 N eT eN 40 8 (by decide)) ?_
  refine pw_putL d_TK_take_33 f_TK_180 rfl rfl rfl ?_
  have e2 : (sL N (PEK p) 1 (rdN (M.1 (0, 2)) 40 8)).2.2.1 = rf := eN
  refine pw_aload_n d_TK_take_36 rfl ?_
  refine pw_aload_n d_TK_take_37 rfl ?_
  refine pw_getR d_TK_take_38 f_TK_14 rfl rfl (rfO e2 rfl) ?_
  refine pw_getR d_TK_take_41 f_TK_68 rfl rfl (rfO e2 rfl) ?_
  refine pw_iconst 1 d_TK_take_44 (by decide) ?_
  refine pw_iaN (n := 1) d_TK_take_45 rfl (by omega) (by decide) ?_
  rw [show (sL N (PEK p) 1 (rdN (M.1 (0, 2)) 40 8)).1 (0, 2) 1 = M.1 (0, 2) 1 from by rw [← eT]; rfl]
  refine pw_putI d_TK_take_46 f_TK_200 rfl rfl rfl ?_
  have t3 : (sI (sL N (PEK p) 1 (rdN (M.1 (0, 2)) 40 8)) (PEK p) 3 (M.1 (0, 2) 1)).1 (0, 2) = M.1 (0, 2) := by rw [← eT]; funext j; simp [sI, sL]
  have t3r : (sI (sL N (PEK p) 1 (rdN (M.1 (0, 2)) 40 8)) (PEK p) 3 (M.1 (0, 2) 1)).2.2.1 = rf := eN
  refine pw_aload_n d_TK_take_49 rfl ?_
  refine pw_aload_n d_TK_take_50 rfl ?_
  refine pw_getR d_TK_take_51 f_TK_14 rfl rfl (rfO t3r rfl) ?_
  refine pw_iconst 4 d_TK_take_54 (by decide) ?_
  refine pw_iconst 4 d_TK_take_55 (by decide) ?_
  refine c_TK_take_56 rfl (Nat.le_of_ble_eq_true rfl) (r1 _ t3 t3r 4 4 (by decide)) ?_
  refine pw_ldc2 (65536) d_TK_take_59 g529 ?_
  refine pw_lmul d_TK_take_62 ?_
  refine pw_putL d_TK_take_63 f_TK_290 rfl rfl rfl ?_
  have t4 : (sL (sI (sL N (PEK p) 1 (rdN (M.1 (0, 2)) 40 8)) (PEK p) 3 (M.1 (0, 2) 1)) (PEK p) 4 (rdN (M.1 (0, 2)) 4 4 * 65536)).1 (0, 2) = M.1 (0, 2) := t3
  have t4r : (sL (sI (sL N (PEK p) 1 (rdN (M.1 (0, 2)) 40 8)) (PEK p) 3 (M.1 (0, 2) 1)) (PEK p) 4 (rdN (M.1 (0, 2)) 4 4 * 65536)).2.2.1 = rf := eN
  refine pw_aload_n d_TK_take_66 rfl ?_
  refine pw_aload_n d_TK_take_67 rfl ?_
  refine pw_getR d_TK_take_68 f_TK_14 rfl rfl (rfO t4r rfl) ?_
  refine pw_bipush (8) d_TK_take_71 (by decide) ?_
  refine pw_iconst 4 d_TK_take_73 (by decide) ?_
  refine c_TK_take_74 rfl (Nat.le_of_ble_eq_true rfl) (r1 _ t4 t4r 8 4 (by decide)) ?_
  refine pw_ldc2 (65536) d_TK_take_77 g529 ?_
  refine pw_lmul d_TK_take_80 ?_
  refine pw_putL d_TK_take_81 f_TK_293 rfl rfl rfl ?_
  refine pw_aload_n d_TK_take_84 rfl ?_
  refine pw_lconst 0 d_TK_take_85 (by decide) ?_
  refine pw_putL d_TK_take_86 f_TK_106 rfl rfl rfl ?_
  refine pw_aload_n d_TK_take_89 rfl ?_
  refine pw_dup d_TK_take_90 rfl ?_
  refine pw_getI d_TK_take_91 f_TK_197 rfl rfl ?_
  rw [show ∀ (N : Mem) a b c d e, (sL (sL (sL (sI (sL N (PEK p) 1 a) (PEK p) 3 b) (PEK p) 4 c) (PEK p) 5 d) (PEK p) 0 e).1 (PEK p) 2 = N.1 (PEK p) 2 from fun N a b c d e => by simp [sI, sL], eR]
  refine pw_iconst 1 d_TK_take_94 (by decide) ?_
  refine pw_ior d_TK_take_95 ?_
  refine pw_putI d_TK_take_96 f_TK_197 rfl rfl rfl ?_
  refine pw_return d_TK_take_99 rfl ?_ ?_
  · rfl
  · rfl
/-- all samples forgotten, the first n peers' -/
def fgC (M : Mem) (n : Nat) : Mem := (fun q j => if (0 < q.1 ∧ q.1 ≤ n) ∧ q.2 = 0 ∧ j = 6 then 0 else M.1 q j, fun q j => if (0 < q.1 ∧ q.1 ≤ n) ∧ q.2 = 0 ∧ j = 0 then 0 else M.2.1 q j, M.2.2)
theorem lp_forget (hM : M.2.2.1 = rf) : ∀ i, i ≤ 8 → PW G l m_TK_forgetSamples 2 [some (vR (some TKK)), some (vI (nI i))] [] (fgC M i) rV (fgC M 8) 0 0 := by
  refine lpU ?_ ?_
  · refine pw_iload_n d_TK_forgetSamples_2 rfl ?_
    refine pw_bipush (8) d_TK_forgetSamples_3 (by decide) ?_
    refine pw_icmp_ge (tgt := 34) d_TK_forgetSamples_5 (by decide) (fun _ => ?_) (fun hQ => absurd (nI_le (a := 8) (b := 8) (by omega) (by omega)) hQ)
    refine pw_return d_TK_forgetSamples_34 rfl ?_ ?_
    · rfl
    · rfl
  · intro i hi ih
    have hr : (fgC M i).2.2.1 = rf := hM
    have hr2 : ∀ k j x, (sI (fgC M i) k j x).2.2.1 = rf := fun _ _ _ => hM
    refine pw_iload_n d_TK_forgetSamples_2 rfl ?_
    refine pw_bipush (8) d_TK_forgetSamples_3 (by decide) ?_
    refine pw_icmp_ge (tgt := 34) d_TK_forgetSamples_5 (by decide) (fun hQ => absurd hQ (nI_ge (b := 8) hi (by omega))) (fun _ => ?_)
    refine pw_aload_n d_TK_forgetSamples_8 rfl ?_
    refine pw_getR d_TK_forgetSamples_9 f_TK_30 rfl rfl (rfO hr rfl) ?_
    refine pw_iload_n d_TK_forgetSamples_12 rfl ?_
    refine pw_aaload d_TK_forgetSamples_13 rfl (vp_in_nI hi (by decide)) (rfO hr (rf6 hi)) ?_
    refine pw_iconst 0 d_TK_forgetSamples_14 (by decide) ?_
    refine pw_putI d_TK_forgetSamples_15 f_TK_175 rfl rfl rfl ?_
    refine pw_aload_n d_TK_forgetSamples_18 rfl ?_
    refine pw_getR d_TK_forgetSamples_19 f_TK_30 rfl rfl (rfO (hr2 _ _ _) rfl) ?_
    refine pw_iload_n d_TK_forgetSamples_22 rfl ?_
    refine pw_aaload d_TK_forgetSamples_23 rfl (vp_in_nI hi (by decide)) (rfO (hr2 _ _ _) (rf6 hi)) ?_
    refine pw_lconst 0 d_TK_forgetSamples_24 (by decide) ?_
    refine pw_putL d_TK_forgetSamples_25 f_TK_106 rfl rfl rfl ?_
    refine pw_iinc (1) d_TK_forgetSamples_28 rfl (by decide) (by decide) ?_
    dsimp only [stL, kil, isL, cat]
    refine pw_goto (tgt := 2) d_TK_forgetSamples_31 (by decide) ?_
    rw [nI_1]
    have e : sL (sI (fgC M i) (i + 1, 0) 6 0) (i + 1, 0) 0 0 = fgC M (i + 1) := by
      unfold sL sI fgC
      refine Prod.ext ?_ (Prod.ext ?_ rfl)
      · funext q j
        show ite _ _ (ite _ _ _) = ite _ _ _
        obtain ⟨a, b⟩ := q
        by_cases h : a = i + 1 ∧ b = 0 ∧ j = 6
        · obtain ⟨h1, h2, h3⟩ := h
          subst h1; subst h2; subst h3
          simp
        · have h1 : ¬ ((a, b) = (i + 1, 0) ∧ j = 6) := fun z => h (by simp at z; omega)
          rw [if_neg h1]
          by_cases h2 : (0 < a ∧ a ≤ i) ∧ b = 0 ∧ j = 6
          · rw [if_pos h2, if_pos (by simp only; omega)]
          · rw [if_neg h2, if_neg (by simp only; omega)]
      · funext q j
        show ite _ _ (ite _ _ _) = ite _ _ _
        obtain ⟨a, b⟩ := q
        by_cases h : a = i + 1 ∧ b = 0 ∧ j = 0
        · obtain ⟨h1, h2, h3⟩ := h
          subst h1; subst h2; subst h3
          simp
        · have h1 : ¬ ((a, b) = (i + 1, 0) ∧ j = 0) := fun z => h (by simp at z; omega)
          rw [if_neg h1]
          by_cases h2 : (0 < a ∧ a ≤ i) ∧ b = 0 ∧ j = 0
          · rw [if_pos h2, if_pos (by simp only; omega)]
          · rw [if_neg h2, if_neg (by simp only; omega)]
    rw [e]
    exact ih
theorem pm_forgetSamples (hM : M.2.2.1 = rf) : PM G l m_TK_forgetSamples [vR (some TKK)] M rV (fgC M 8) 0 0 := by
  refine pm_in [some (vR (some TKK)), none] rfl ?_
  refine pw_iconst 0 d_TK_forgetSamples_0 (by decide) ?_
  refine pw_istore_n d_TK_forgetSamples_1 (by decide) ?_
  dsimp only [stL, kil, isL, cat]
  have q := lp_forget (G := G) (l := l) hM 0 (by omega)
  rw [show fgC M 0 = M from by
    unfold fgC
    refine Prod.ext ?_ (Prod.ext ?_ rfl)
    · funext q j
      show ite _ _ _ = _
      rw [if_neg (by omega)]
    · funext q j
      show ite _ _ _ = _
      rw [if_neg (by omega)]] at q
  exact q
end TK9
