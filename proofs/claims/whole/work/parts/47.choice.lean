/-! the choice -/
abbrev CHK : KK := (0, 7)
abbrev loV (V : VV) (x : Nat) : Int64 := oV V x - dV V x
abbrev hiV (V : VV) (x : Nat) : Int64 := oV V x + dV V x
def agL (V : VV) (ns : List Nat) (nd : Nat) (l : List Nat) : Int64 := l.foldl (fun s x => if nd ≤ ns.countP (inI V (loV V x)) then (if loV V x < s then loV V x else s) else s) 4611686018427387904
def agH (V : VV) (ns : List Nat) (nd : Nat) (l : List Nat) : Int64 := l.foldl (fun s x => if nd ≤ ns.countP (inI V (hiV V x)) then (if s < hiV V x then hiV V x else s) else s) (-4611686018427387904)
def ag (V : VV) (ns : List Nat) (f : Nat) : Prop := ¬ agH V ns (ns.length - f) ns < agL V ns (ns.length - f) ns ∧ ns.length - f ≤ ns.countP (inO V (agL V ns (ns.length - f) ns) (agH V ns (ns.length - f) ns))
def thW (V : VV) (ns : List Nat) : Nat := wst (fun k => spA V ns (atL ns k)) ns.length
def thN (V : VV) : Nat → List Nat → List Nat
  | 0, ns => ns
  | k + 1, ns => if 3 < ns.length ∧ ¬ spA V ns (atL ns (thW V ns)) < ljN V ns (ns.length - 1) then thN V k (ns.eraseIdx (thW V ns)) else ns
def cjV (V : VV) (ns : List Nat) : Int64 := if jV V (atL ns 0) < 4096 * rtL (sqs V (mnO V ns) ns / lN ns.length) then 4096 * rtL (sqs V (mnO V ns) ns / lN ns.length) else jV V (atL ns 0)
theorem cnt_len {f : Nat → Bool} {ns : List Nat} : ns.countP f ≤ ns.length := List.countP_le_length
section CH
variable {G : GG} {l : Launch} {M : Mem} {V : VV} {ns : List Nat}
theorem row_cI {j : Nat} {x : Int32} (hR : RowL V M ns) : RowL V (sI M CHK j x) ns := by
  obtain ⟨h1, h2, h3⟩ := hR
  refine ⟨by simp [sI]; exact h1, h2, fun i y hy => ?_⟩
  have := h3 i y hy
  simp [sI]
  exact this
theorem row_cL {j : Nat} {x : Int64} (hR : RowL V M ns) : RowL V (sL M CHK j x) ns := by
  obtain ⟨h1, h2, h3⟩ := hR
  refine ⟨h1, h2, fun i y hy => ?_⟩
  have := h3 i y hy
  simp [sL]
  exact this
theorem lp_agree (hM : M.2.2.1 = rf) (hR : RowL V M ns) (f nd : Nat) (hnd : nd ≤ 8) (o : PO) (M' : Mem)
    (hend : PW G l m_CH_agreeBut 110 [some (vR (some CHK)), some (vI (nI f)), some (vI (nI nd)), some (vL (agL V ns nd ns)), none, some (vL (agH V ns nd ns)), none, some (vI (nI ns.length))] [] M o M' 0 0) :
    ∀ i, i ≤ ns.length → PW G l m_CH_agreeBut 22 [some (vR (some CHK)), some (vI (nI f)), some (vI (nI nd)), some (vL (agL V ns nd (ns.take i))), none, some (vL (agH V ns nd (ns.take i))), none, some (vI (nI i))] [] M o M' 0 0 := by
  have hR' := hR
  obtain ⟨h1, h2, h3⟩ := hR
  refine lpU ?_ ?_
  · rw [List.take_length]
    refine pw_iload d_CH_agreeBut_22 rfl ?_
    refine pw_aload_n d_CH_agreeBut_24 rfl ?_
    refine pw_getR d_CH_agreeBut_25 f_CH_12 rfl rfl (rfO hM rfl) ?_
    refine pw_getI d_CH_agreeBut_28 f_CH_60 rfl rfl ?_
    rw [h1]
    refine pw_icmp_ge (tgt := 110) d_CH_agreeBut_31 (by decide) (fun _ => ?_) (fun hQ => absurd (nI_le (Nat.le_refl _) (by omega)) hQ)
    exact hend
  · intro i hi ih
    obtain ⟨x, hx⟩ := get_lt hi
    have c1 := cnt_len (f := inI V (oV V x - dV V x)) (ns := ns)
    have c2 := cnt_len (f := inI V (oV V x + dV V x)) (ns := ns)
    have q := ih
    unfold agL agH at q
    rw [fold_take hx, fold_take hx] at q
    -- the second half, whatever the least is
    have half : ∀ L, (∀ Hh, Hh = (if nd ≤ ns.countP (inI V (hiV V x)) then (if agH V ns nd (ns.take i) < hiV V x then hiV V x else agH V ns nd (ns.take i)) else agH V ns nd (ns.take i)) → PW G l m_CH_agreeBut 22 [some (vR (some CHK)), some (vI (nI f)), some (vI (nI nd)), some (vL L), none, some (vL Hh), none, some (vI (nI (i + 1)))] [] M o M' 0 0) → PW G l m_CH_agreeBut 68 [some (vR (some CHK)), some (vI (nI f)), some (vI (nI nd)), some (vL L), none, some (vL (agH V ns nd (ns.take i))), none, some (vI (nI i))] [] M o M' 0 0 := by
      intro L hL
      refine pw_aload_n d_CH_agreeBut_68 rfl ?_
      refine pw_getR d_CH_agreeBut_69 f_CH_12 rfl rfl (rfO hM rfl) ?_
      refine pw_aload_n d_CH_agreeBut_72 rfl ?_
      refine pw_getR d_CH_agreeBut_73 f_CH_12 rfl rfl (rfO hM rfl) ?_
      refine pw_iload d_CH_agreeBut_76 rfl ?_
      refine c_CH_agreeBut_78 rfl (Nat.le_of_ble_eq_true rfl) (pm_upper hM hR' hx) ?_
      refine c_CH_agreeBut_81 rfl (Nat.le_of_ble_eq_true rfl) (pm_around hM hR' _) ?_
      refine pw_iload_n d_CH_agreeBut_84 rfl ?_
      by_cases hc : nd ≤ ns.countP (inI V (oV V x + dV V x))
      · refine pw_icmp_lt (tgt := 104) d_CH_agreeBut_85 (by decide) (fun hQ => absurd hQ ((nI_nlt hc (by omega)))) (fun _ => ?_)
        refine pw_lload d_CH_agreeBut_88 rfl ?_
        refine pw_aload_n d_CH_agreeBut_90 rfl ?_
        refine pw_getR d_CH_agreeBut_91 f_CH_12 rfl rfl (rfO hM rfl) ?_
        refine pw_iload d_CH_agreeBut_94 rfl ?_
        refine c_CH_agreeBut_96 rfl (Nat.le_of_ble_eq_true rfl) (pm_upper hM hR' hx) ?_
        refine c_CH_agreeBut_99 (Nat.le_of_ble_eq_true rfl) (pm_max_JJ _ _) ?_
        refine pw_lstore d_CH_agreeBut_102 (by decide) ?_
        dsimp only [stL, kil, isL, cat]
        refine pw_iinc (1) d_CH_agreeBut_104 rfl (by decide) (by decide) ?_
        dsimp only [stL, kil, isL, cat]
        refine pw_goto (tgt := 22) d_CH_agreeBut_107 (by decide) ?_
        rw [nI_1]
        refine hL _ ?_
        rw [if_pos hc]
      · refine pw_icmp_lt (tgt := 104) d_CH_agreeBut_85 (by decide) (fun _ => ?_) (fun hQ => absurd ((nI_lt (by omega) (by omega))) hQ)
        refine pw_iinc (1) d_CH_agreeBut_104 rfl (by decide) (by decide) ?_
        dsimp only [stL, kil, isL, cat]
        refine pw_goto (tgt := 22) d_CH_agreeBut_107 (by decide) ?_
        rw [nI_1]
        refine hL _ ?_
        rw [if_neg hc]
    refine pw_iload d_CH_agreeBut_22 rfl ?_
    refine pw_aload_n d_CH_agreeBut_24 rfl ?_
    refine pw_getR d_CH_agreeBut_25 f_CH_12 rfl rfl (rfO hM rfl) ?_
    refine pw_getI d_CH_agreeBut_28 f_CH_60 rfl rfl ?_
    rw [h1]
    refine pw_icmp_ge (tgt := 110) d_CH_agreeBut_31 (by decide) (fun hQ => absurd hQ (nI_ge hi (by omega))) (fun _ => ?_)
    refine pw_aload_n d_CH_agreeBut_34 rfl ?_
    refine pw_getR d_CH_agreeBut_35 f_CH_12 rfl rfl (rfO hM rfl) ?_
    refine pw_aload_n d_CH_agreeBut_38 rfl ?_
    refine pw_getR d_CH_agreeBut_39 f_CH_12 rfl rfl (rfO hM rfl) ?_
    refine pw_iload d_CH_agreeBut_42 rfl ?_
    refine c_CH_agreeBut_44 rfl (Nat.le_of_ble_eq_true rfl) (pm_lower hM hR' hx) ?_
    refine c_CH_agreeBut_47 rfl (Nat.le_of_ble_eq_true rfl) (pm_around hM hR' _) ?_
    refine pw_iload_n d_CH_agreeBut_50 rfl ?_
    by_cases hc : nd ≤ ns.countP (inI V (oV V x - dV V x))
    · refine pw_icmp_lt (tgt := 68) d_CH_agreeBut_51 (by decide) (fun hQ => absurd hQ ((nI_nlt hc (by omega)))) (fun _ => ?_)
      refine pw_lload_n d_CH_agreeBut_54 rfl ?_
      refine pw_aload_n d_CH_agreeBut_55 rfl ?_
      refine pw_getR d_CH_agreeBut_56 f_CH_12 rfl rfl (rfO hM rfl) ?_
      refine pw_iload d_CH_agreeBut_59 rfl ?_
      refine c_CH_agreeBut_61 rfl (Nat.le_of_ble_eq_true rfl) (pm_lower hM hR' hx) ?_
      refine c_CH_agreeBut_64 (Nat.le_of_ble_eq_true rfl) (pm_min_JJ _ _) ?_
      refine pw_lstore_n d_CH_agreeBut_67 (by decide) ?_
      dsimp only [stL, kil, isL, cat]
      refine half _ (fun Hh hH => ?_)
      rw [if_pos hc] at q
      rw [hH]
      exact q
    · refine pw_icmp_lt (tgt := 68) d_CH_agreeBut_51 (by decide) (fun _ => ?_) (fun hQ => absurd ((nI_lt (by omega) (by omega))) hQ)
      refine half _ (fun Hh hH => ?_)
      rw [if_neg hc] at q
      rw [hH]
      exact q
theorem pm_agree (hM : M.2.2.1 = rf) (hR : RowL V M ns) (f : Nat) (hf : f ≤ ns.length) [Decidable (ag V ns f)] : PM G l m_CH_agreeBut [vR (some CHK), vI (nI f)] M (if ag V ns f then rI 1 else rI 0) (if ag V ns f then sL (sL M CHK 8 (agL V ns (ns.length - f) ns)) CHK 9 (agH V ns (ns.length - f) ns) else M) 0 0 := by
  refine pm_in [some (vR (some CHK)), some (vI (nI f)), none, none, none, none, none, none] rfl ?_
  have h8 := hR.2.1
  refine pw_aload_n d_CH_agreeBut_0 rfl ?_
  refine pw_getR d_CH_agreeBut_1 f_CH_12 rfl rfl (rfO hM rfl) ?_
  refine pw_getI d_CH_agreeBut_4 f_CH_60 rfl rfl ?_
  rw [hR.1]
  refine pw_iload_n d_CH_agreeBut_7 rfl ?_
  refine pw_isub d_CH_agreeBut_8 ?_
  rw [pk_sub hf]
  refine pw_istore_n d_CH_agreeBut_9 (by decide) ?_
  dsimp only [stL, kil, isL, cat]
  refine pw_ldc2 (4611686018427387904) d_CH_agreeBut_10 g576 ?_
  refine pw_lstore_n d_CH_agreeBut_13 (by decide) ?_
  dsimp only [stL, kil, isL, cat]
  refine pw_ldc2 (-4611686018427387904) d_CH_agreeBut_14 g577 ?_
  refine pw_lstore d_CH_agreeBut_17 (by decide) ?_
  dsimp only [stL, kil, isL, cat]
  refine pw_iconst 0 d_CH_agreeBut_19 (by decide) ?_
  refine pw_istore d_CH_agreeBut_20 (by decide) ?_
  dsimp only [stL, kil, isL, cat]
  refine lp_agree hM hR f (ns.length - f) (by omega) _ _ ?_ 0 (by omega)
  have hw := pm_within (G := G) (l := l) hM hR (agL V ns (ns.length - f) ns) (agH V ns (ns.length - f) ns)
  have hcl := cnt_len (f := inO V (agL V ns (ns.length - f) ns) (agH V ns (ns.length - f) ns)) (ns := ns)
  by_cases h : ag V ns f
  · rw [if_pos h, if_pos h]
    obtain ⟨a1, a2⟩ := h
    refine pw_lload_n d_CH_agreeBut_110 rfl ?_
    refine pw_lload d_CH_agreeBut_111 rfl ?_
    refine pw_lcmp d_CH_agreeBut_113 ?_
    refine pw_if_gt (tgt := 131) d_CH_agreeBut_114 (by decide) (fun hQ => absurd hQ ((fun z => a1 ((lg_gt _ _).mp z)))) (fun _ => ?_)
    refine pw_aload_n d_CH_agreeBut_117 rfl ?_
    refine pw_getR d_CH_agreeBut_118 f_CH_12 rfl rfl (rfO hM rfl) ?_
    refine pw_lload_n d_CH_agreeBut_121 rfl ?_
    refine pw_lload d_CH_agreeBut_122 rfl ?_
    refine c_CH_agreeBut_124 rfl (Nat.le_of_ble_eq_true rfl) hw ?_
    refine pw_iload_n d_CH_agreeBut_127 rfl ?_
    refine pw_icmp_ge (tgt := 133) d_CH_agreeBut_128 (by decide) (fun _ => ?_) (fun hQ => absurd ((nI_le a2 (by omega))) hQ)
    refine pw_aload_n d_CH_agreeBut_133 rfl ?_
    refine pw_lload_n d_CH_agreeBut_134 rfl ?_
    refine pw_putL d_CH_agreeBut_135 f_CH_40 rfl rfl rfl ?_
    refine pw_aload_n d_CH_agreeBut_138 rfl ?_
    refine pw_lload d_CH_agreeBut_139 rfl ?_
    refine pw_putL d_CH_agreeBut_141 f_CH_44 rfl rfl rfl ?_
    refine pw_iconst 1 d_CH_agreeBut_144 (by decide) ?_
    refine pw_zreturn d_CH_agreeBut_145 rfl ?_ ?_ ?_
    · exact Or.inr rfl
    · rfl
    · rfl
  · rw [if_neg h, if_neg h]
    refine pw_lload_n d_CH_agreeBut_110 rfl ?_
    refine pw_lload d_CH_agreeBut_111 rfl ?_
    refine pw_lcmp d_CH_agreeBut_113 ?_
    refine pw_if_gt (tgt := 131) d_CH_agreeBut_114 (by decide) (fun h1 => ?_) (fun h1 => ?_)
    · refine pw_iconst 0 d_CH_agreeBut_131 (by decide) ?_
      refine pw_zreturn d_CH_agreeBut_132 rfl ?_ ?_ ?_
      · exact Or.inl rfl
      · rfl
      · rfl
    · rw [lg_gt] at h1
      refine pw_aload_n d_CH_agreeBut_117 rfl ?_
      refine pw_getR d_CH_agreeBut_118 f_CH_12 rfl rfl (rfO hM rfl) ?_
      refine pw_lload_n d_CH_agreeBut_121 rfl ?_
      refine pw_lload d_CH_agreeBut_122 rfl ?_
      refine c_CH_agreeBut_124 rfl (Nat.le_of_ble_eq_true rfl) hw ?_
      refine pw_iload_n d_CH_agreeBut_127 rfl ?_
      refine pw_icmp_ge (tgt := 133) d_CH_agreeBut_128 (by decide) (fun hQ => absurd hQ ((nI_ge (Nat.lt_of_not_le (fun z => h ⟨h1, z⟩)) (by omega)))) (fun _ => ?_)
      refine pw_iconst 0 d_CH_agreeBut_131 (by decide) ?_
      refine pw_zreturn d_CH_agreeBut_132 rfl ?_ ?_ ?_
      · exact Or.inl rfl
      · rfl
      · rfl
theorem lp_find_y (hM : M.2.2.1 = rf) (hR : RowL V M ns) (f : Nat) (h2 : 2 * f < ns.length) (ha : ag V ns f) (hmin : ∀ g, g < f → ¬ ag V ns g) : ∀ i, i ≤ f → PW G l m_CH_findAgreement 2 [some (vR (some CHK)), some (vI (nI i))] [] M (rI 1) (sL (sL M CHK 8 (agL V ns (ns.length - f) ns)) CHK 9 (agH V ns (ns.length - f) ns)) 0 0 := by
  have h8 := hR.2.1
  refine lpU ?_ ?_
  · have q := @pm_agree G l M V ns hM hR f (by omega) (.isTrue ha)
    rw [if_pos ha, if_pos ha] at q
    refine pw_iconst 2 d_CH_findAgreement_2 (by decide) ?_
    refine pw_iload_n d_CH_findAgreement_3 rfl ?_
    refine pw_imul d_CH_findAgreement_4 ?_
    refine pw_aload_n d_CH_findAgreement_5 rfl ?_
    refine pw_getR d_CH_findAgreement_6 f_CH_12 rfl rfl (rfO hM rfl) ?_
    refine pw_getI d_CH_findAgreement_9 f_CH_60 rfl rfl ?_
    rw [hR.1, show (2 : Int32) * nI f = nI (2 * f) from pk_mul 2 f]
    refine pw_icmp_ge (tgt := 31) d_CH_findAgreement_12 (by decide) (fun hQ => absurd hQ (nI_ge h2 (by omega))) (fun _ => ?_)
    refine pw_aload_n d_CH_findAgreement_15 rfl ?_
    refine pw_iload_n d_CH_findAgreement_16 rfl ?_
    refine c_CH_findAgreement_17 rfl (Nat.le_of_ble_eq_true rfl) q ?_
    refine pw_if_eq (tgt := 25) d_CH_findAgreement_20 (by decide) (fun hQ => absurd hQ ((by decide))) (fun _ => ?_)
    refine pw_iconst 1 d_CH_findAgreement_23 (by decide) ?_
    refine pw_zreturn d_CH_findAgreement_24 rfl ?_ ?_ ?_
    · exact Or.inr rfl
    · rfl
    · rfl
  · intro i hi ih
    have hn := hmin i hi
    have q := @pm_agree G l M V ns hM hR i (by omega) (.isFalse hn)
    rw [if_neg hn, if_neg hn] at q
    refine pw_iconst 2 d_CH_findAgreement_2 (by decide) ?_
    refine pw_iload_n d_CH_findAgreement_3 rfl ?_
    refine pw_imul d_CH_findAgreement_4 ?_
    refine pw_aload_n d_CH_findAgreement_5 rfl ?_
    refine pw_getR d_CH_findAgreement_6 f_CH_12 rfl rfl (rfO hM rfl) ?_
    refine pw_getI d_CH_findAgreement_9 f_CH_60 rfl rfl ?_
    rw [hR.1, show (2 : Int32) * nI i = nI (2 * i) from pk_mul 2 i]
    refine pw_icmp_ge (tgt := 31) d_CH_findAgreement_12 (by decide) (fun hQ => absurd hQ (nI_ge (by omega) (by omega))) (fun _ => ?_)
    refine pw_aload_n d_CH_findAgreement_15 rfl ?_
    refine pw_iload_n d_CH_findAgreement_16 rfl ?_
    refine c_CH_findAgreement_17 rfl (Nat.le_of_ble_eq_true rfl) q ?_
    refine pw_if_eq (tgt := 25) d_CH_findAgreement_20 (by decide) (fun _ => ?_) (fun hQ => absurd (rfl) hQ)
    refine pw_iinc (1) d_CH_findAgreement_25 rfl (by decide) (by decide) ?_
    dsimp only [stL, kil, isL, cat]
    refine pw_goto (tgt := 2) d_CH_findAgreement_28 (by decide) ?_
    rw [nI_1]
    exact ih
theorem pm_find_y (hM : M.2.2.1 = rf) (hR : RowL V M ns) (f : Nat) (h2 : 2 * f < ns.length) (ha : ag V ns f) (hmin : ∀ g, g < f → ¬ ag V ns g) : PM G l m_CH_findAgreement [vR (some CHK)] M (rI 1) (sL (sL M CHK 8 (agL V ns (ns.length - f) ns)) CHK 9 (agH V ns (ns.length - f) ns)) 0 0 := by
  refine pm_in [some (vR (some CHK)), none] rfl ?_
  refine pw_iconst 0 d_CH_findAgreement_0 (by decide) ?_
  refine pw_istore_n d_CH_findAgreement_1 (by decide) ?_
  dsimp only [stL, kil, isL, cat]
  exact lp_find_y hM hR f h2 ha hmin 0 (by omega)
theorem lp_find_n (hM : M.2.2.1 = rf) (hR : RowL V M ns) (hno : ∀ g, 2 * g < ns.length → ¬ ag V ns g) : ∀ i, i ≤ ns.length → PW G l m_CH_findAgreement 2 [some (vR (some CHK)), some (vI (nI i))] [] M (rI 0) M 0 0 := by
  have h8 := hR.2.1
  have stop : ∀ i, i ≤ ns.length → ns.length ≤ 2 * i → PW G l m_CH_findAgreement 2 [some (vR (some CHK)), some (vI (nI i))] [] M (rI 0) M 0 0 := by
    intro i hi hl
    refine pw_iconst 2 d_CH_findAgreement_2 (by decide) ?_
    refine pw_iload_n d_CH_findAgreement_3 rfl ?_
    refine pw_imul d_CH_findAgreement_4 ?_
    refine pw_aload_n d_CH_findAgreement_5 rfl ?_
    refine pw_getR d_CH_findAgreement_6 f_CH_12 rfl rfl (rfO hM rfl) ?_
    refine pw_getI d_CH_findAgreement_9 f_CH_60 rfl rfl ?_
    rw [hR.1, show (2 : Int32) * nI i = nI (2 * i) from pk_mul 2 i]
    refine pw_icmp_ge (tgt := 31) d_CH_findAgreement_12 (by decide) (fun _ => ?_) (fun hQ => absurd (nI_le hl (by omega)) hQ)
    refine pw_iconst 0 d_CH_findAgreement_31 (by decide) ?_
    refine pw_zreturn d_CH_findAgreement_32 rfl ?_ ?_ ?_
    · exact Or.inl rfl
    · rfl
    · rfl
  refine lpU (stop _ (Nat.le_refl _) (by omega)) ?_
  intro i hi ih
  by_cases hl : ns.length ≤ 2 * i
  · exact stop i (by omega) hl
  · have hn := hno i (by omega)
    have q := @pm_agree G l M V ns hM hR i (by omega) (.isFalse hn)
    rw [if_neg hn, if_neg hn] at q
    refine pw_iconst 2 d_CH_findAgreement_2 (by decide) ?_
    refine pw_iload_n d_CH_findAgreement_3 rfl ?_
    refine pw_imul d_CH_findAgreement_4 ?_
    refine pw_aload_n d_CH_findAgreement_5 rfl ?_
    refine pw_getR d_CH_findAgreement_6 f_CH_12 rfl rfl (rfO hM rfl) ?_
    refine pw_getI d_CH_findAgreement_9 f_CH_60 rfl rfl ?_
    rw [hR.1, show (2 : Int32) * nI i = nI (2 * i) from pk_mul 2 i]
    refine pw_icmp_ge (tgt := 31) d_CH_findAgreement_12 (by decide) (fun hQ => absurd hQ (nI_ge (by omega) (by omega))) (fun _ => ?_)
    refine pw_aload_n d_CH_findAgreement_15 rfl ?_
    refine pw_iload_n d_CH_findAgreement_16 rfl ?_
    refine c_CH_findAgreement_17 rfl (Nat.le_of_ble_eq_true rfl) q ?_
    refine pw_if_eq (tgt := 25) d_CH_findAgreement_20 (by decide) (fun _ => ?_) (fun hQ => absurd (rfl) hQ)
    refine pw_iinc (1) d_CH_findAgreement_25 rfl (by decide) (by decide) ?_
    dsimp only [stL, kil, isL, cat]
    refine pw_goto (tgt := 2) d_CH_findAgreement_28 (by decide) ?_
    rw [nI_1]
    exact ih
theorem pm_find_n (hM : M.2.2.1 = rf) (hR : RowL V M ns) (hno : ∀ g, 2 * g < ns.length → ¬ ag V ns g) : PM G l m_CH_findAgreement [vR (some CHK)] M (rI 0) M 0 0 := by
  refine pm_in [some (vR (some CHK)), none] rfl ?_
  refine pw_iconst 0 d_CH_findAgreement_0 (by decide) ?_
  refine pw_istore_n d_CH_findAgreement_1 (by decide) ?_
  dsimp only [stL, kil, isL, cat]
  exact lp_find_n hM hR hno 0 (by omega)
theorem lp_thin (hM : M.2.2.1 = rf) : ∀ k, k ≤ 8 → ∀ ns N (x : Option PV), FR M N → RowL V N ns → (∀ x ∈ ns, oB (oV V x)) → isL x = false → ∃ N', (FR M N' ∧ RowL V N' (thN V k ns)) ∧ PW G l m_CH_thinOut 2 [some (vR (some CHK)), some (vI (nI (8 - k))), x] [] N rV N' 0 0 := by
  intro k
  induction k with
  | zero =>
    intro _ ns N x hF hR hB _
    refine ⟨N, ⟨hF, hR⟩, ?_⟩
    refine pw_iload_n d_CH_thinOut_2 rfl ?_
    refine pw_bipush (8) d_CH_thinOut_3 (by decide) ?_
    refine pw_icmp_ge (tgt := 61) d_CH_thinOut_5 (by decide) (fun _ => ?_) (fun hQ => absurd (nI_le (a := 8) (b := 8) (by omega) (by omega)) hQ)
    refine pw_return d_CH_thinOut_61 rfl ?_ ?_
    · rfl
    · rfl
  | succ k ih =>
    intro hk ns N x hF hR hB hx
    have hN := hF.rf hM
    have h8 := hR.2.1
    by_cases h3 : 3 < ns.length
    · have hw0 := wst_lt (fun k => spA V ns (atL ns k)) ns.length (by omega)
      have hwx := atL_get hw0
      have hpl := pm_place (G := G) (l := l) hN hR hB (by omega)
      have hsp := pm_spreadAround (G := G) (l := l) hN hR hB hwx
      have hlj := pm_least (G := G) (l := l) hN hR (by omega)
      by_cases hc : spA V ns (atL ns (thW V ns)) < ljN V ns (ns.length - 1)
      · refine ⟨N, ⟨hF, ?_⟩, ?_⟩
        · rw [thN, if_neg (fun z => z.2 hc)]
          exact hR
        · refine pw_iload_n d_CH_thinOut_2 rfl ?_
          refine pw_bipush (8) d_CH_thinOut_3 (by decide) ?_
          refine pw_icmp_ge (tgt := 61) d_CH_thinOut_5 (by decide) (fun hQ => absurd hQ (nI_ge (b := 8) (by omega) (by omega))) (fun _ => ?_)
          refine pw_aload_n d_CH_thinOut_8 rfl ?_
          refine pw_getR d_CH_thinOut_9 f_CH_12 rfl rfl (rfO hN rfl) ?_
          refine pw_getI d_CH_thinOut_12 f_CH_60 rfl rfl ?_
          refine pw_iconst 3 d_CH_thinOut_15 (by decide) ?_
          rw [hR.1]
          refine pw_icmp_le (tgt := 61) d_CH_thinOut_16 (by decide) (fun hQ => absurd hQ (nI_ge (a := 3) h3 (by omega))) (fun _ => ?_)
          refine pw_aload_n d_CH_thinOut_19 rfl ?_
          refine pw_getR d_CH_thinOut_20 f_CH_12 rfl rfl (rfO hN rfl) ?_
          refine c_CH_thinOut_23 rfl (Nat.le_of_ble_eq_true rfl) hpl ?_
          refine pw_istore_n d_CH_thinOut_26 (by decide) ?_
          dsimp only [stL, kil, isL, cat]
          refine pw_aload_n d_CH_thinOut_27 rfl ?_
          refine pw_getR d_CH_thinOut_28 f_CH_12 rfl rfl (rfO hN rfl) ?_
          refine pw_iload_n d_CH_thinOut_31 rfl ?_
          refine c_CH_thinOut_32 rfl (Nat.le_of_ble_eq_true rfl) hsp ?_
          refine pw_aload_n d_CH_thinOut_35 rfl ?_
          refine pw_getR d_CH_thinOut_36 f_CH_12 rfl rfl (rfO hN rfl) ?_
          refine c_CH_thinOut_39 rfl (Nat.le_of_ble_eq_true rfl) hlj ?_
          refine pw_lcmp d_CH_thinOut_42 ?_
          refine pw_if_ge (tgt := 47) d_CH_thinOut_43 (by decide) (fun hQ => absurd hQ ((fun z => (lg_ge _ _).mp z hc))) (fun _ => ?_)
          refine pw_return d_CH_thinOut_46 rfl ?_ ?_
          · rfl
          · rfl
      · obtain ⟨K, hFK, hRK, hwK⟩ := pm_remove (G := G) (l := l) hN hR _ hw0
        obtain ⟨N', hX, hw⟩ := ih (by omega) _ K (some (vI (nI (thW V ns)))) (hF.trans hFK) hRK (fun y hy => hB y (List.mem_of_mem_eraseIdx hy)) rfl
        refine ⟨N', ⟨hX.1, ?_⟩, ?_⟩
        · rw [thN, if_pos ⟨h3, hc⟩]
          exact hX.2
        · refine pw_iload_n d_CH_thinOut_2 rfl ?_
          refine pw_bipush (8) d_CH_thinOut_3 (by decide) ?_
          refine pw_icmp_ge (tgt := 61) d_CH_thinOut_5 (by decide) (fun hQ => absurd hQ (nI_ge (b := 8) (by omega) (by omega))) (fun _ => ?_)
          refine pw_aload_n d_CH_thinOut_8 rfl ?_
          refine pw_getR d_CH_thinOut_9 f_CH_12 rfl rfl (rfO hN rfl) ?_
          refine pw_getI d_CH_thinOut_12 f_CH_60 rfl rfl ?_
          refine pw_iconst 3 d_CH_thinOut_15 (by decide) ?_
          rw [hR.1]
          refine pw_icmp_le (tgt := 61) d_CH_thinOut_16 (by decide) (fun hQ => absurd hQ (nI_ge (a := 3) h3 (by omega))) (fun _ => ?_)
          refine pw_aload_n d_CH_thinOut_19 rfl ?_
          refine pw_getR d_CH_thinOut_20 f_CH_12 rfl rfl (rfO hN rfl) ?_
          refine c_CH_thinOut_23 rfl (Nat.le_of_ble_eq_true rfl) hpl ?_
          refine pw_istore_n d_CH_thinOut_26 (by decide) ?_
          dsimp only [stL, kil, isL, cat]
          refine pw_aload_n d_CH_thinOut_27 rfl ?_
          refine pw_getR d_CH_thinOut_28 f_CH_12 rfl rfl (rfO hN rfl) ?_
          refine pw_iload_n d_CH_thinOut_31 rfl ?_
          refine c_CH_thinOut_32 rfl (Nat.le_of_ble_eq_true rfl) hsp ?_
          refine pw_aload_n d_CH_thinOut_35 rfl ?_
          refine pw_getR d_CH_thinOut_36 f_CH_12 rfl rfl (rfO hN rfl) ?_
          refine c_CH_thinOut_39 rfl (Nat.le_of_ble_eq_true rfl) hlj ?_
          refine pw_lcmp d_CH_thinOut_42 ?_
          refine pw_if_ge (tgt := 47) d_CH_thinOut_43 (by decide) (fun _ => ?_) (fun hQ => absurd ((lg_ge _ _).mpr hc) hQ)
          refine pw_aload_n d_CH_thinOut_47 rfl ?_
          refine pw_getR d_CH_thinOut_48 f_CH_12 rfl rfl (rfO hN rfl) ?_
          refine pw_iload_n d_CH_thinOut_51 rfl ?_
          refine c_CH_thinOut_52 rfl (Nat.le_of_ble_eq_true rfl) hwK ?_
          refine pw_iinc (1) d_CH_thinOut_55 rfl (by decide) (by decide) ?_
          dsimp only [stL, kil, isL, cat]
          refine pw_goto (tgt := 2) d_CH_thinOut_58 (by decide) ?_
          rw [nI_1, show 8 - (k + 1) + 1 = 8 - k by omega]
          exact hw
    · refine ⟨N, ⟨hF, ?_⟩, ?_⟩
      · rw [thN, if_neg (fun z => h3 z.1)]
        exact hR
      · refine pw_iload_n d_CH_thinOut_2 rfl ?_
        refine pw_bipush (8) d_CH_thinOut_3 (by decide) ?_
        refine pw_icmp_ge (tgt := 61) d_CH_thinOut_5 (by decide) (fun hQ => absurd hQ (nI_ge (b := 8) (by omega) (by omega))) (fun _ => ?_)
        refine pw_aload_n d_CH_thinOut_8 rfl ?_
        refine pw_getR d_CH_thinOut_9 f_CH_12 rfl rfl (rfO hN rfl) ?_
        refine pw_getI d_CH_thinOut_12 f_CH_60 rfl rfl ?_
        refine pw_iconst 3 d_CH_thinOut_15 (by decide) ?_
        rw [hR.1]
        refine pw_icmp_le (tgt := 61) d_CH_thinOut_16 (by decide) (fun _ => ?_) (fun hQ => absurd (nI_le (b := 3) (by omega) (by omega)) hQ)
        refine pw_return d_CH_thinOut_61 rfl ?_ ?_
        · rfl
        · rfl
theorem pm_thin (hM : M.2.2.1 = rf) (hR : RowL V M ns) (hB : ∀ x ∈ ns, oB (oV V x)) : ∃ N, FR M N ∧ RowL V N (thN V 8 ns) ∧ PM G l m_CH_thinOut [vR (some CHK)] M rV N 0 0 := by
  obtain ⟨N, ⟨h1, h2⟩, hw⟩ := lp_thin (G := G) (l := l) hM 8 (by omega) ns M none FR.rfl' hR hB rfl
  refine ⟨N, h1, h2, ?_⟩
  refine pm_in [some (vR (some CHK)), none, none] rfl ?_
  refine pw_iconst 0 d_CH_thinOut_0 (by decide) ?_
  refine pw_istore_n d_CH_thinOut_1 (by decide) ?_
  dsimp only [stL, kil, isL, cat]
  exact hw
theorem spS_rowm (hR : RowL V M ns) (b : Int64) : spS (M.2.1 (0, 11)) b (-1) ns.length = sqs V b ns := by
  obtain ⟨h1, h2, h3⟩ := hR
  unfold spS sqs
  rw [sm_fold (h := fun y => sqL (oV V y - b)) (ns := ns) _ _ (Nat.le_refl _), List.take_length]
  intro j y hy
  have hj := get_ltI hy
  rw [if_neg (nI_nm1 (by omega)), (h3 j y hy).2.2.1]
theorem pm_conclude (hM : M.2.2.1 = rf) (hR : RowL V M ns) (h0 : 0 < ns.length) (hB : ∀ x ∈ ns, oB (oV V x)) (hD : ∀ x ∈ ns, 0 < dV V x) (hW : 0 < mnW V ns) (hO : oB (mnO V ns)) : PM G l m_CH_conclude [vR (some CHK)] M rV (sI (sI (sL (sL M CHK 5 (mnO V ns)) CHK 6 (cjV V ns)) CHK 7 (sV V (atL ns 0) + 1)) CHK 4 1) 0 0 := by
  refine pm_in [some (vR (some CHK))] rfl ?_
  have h8 := hR.2.1
  have hx := atL_get h0
  obtain ⟨g1, g2, g3, g4, g5⟩ := hR.2.2 0 _ hx
  have hR1 := row_cL (j := 5) (x := mnO V ns) hR
  have hS := spS_rowm hR1 (mnO V ns)
  have hC := spC_m ns.length h8
  have hq := pm_spread (G := G) (l := l) (M := sL M CHK 5 (mnO V ns)) (0, 11) rfl ns.length h8 (mnO V ns) (-1) (by
    rw [hS, hC]
    intro hz
    exact div_b (sqs_b h8 hB hO) h0 h8)
  have e1 : spV ((sL M CHK 5 (mnO V ns)).2.1 (0, 11)) (mnO V ns) (-1) ns.length = 4096 * rtL (sqs V (mnO V ns) ns / lN ns.length) := by
    unfold spV
    rw [hS, hC, if_neg (by omega)]
  rw [e1] at hq
  have hM1 : (sL M CHK 5 (mnO V ns)).2.2.1 = rf := hM
  refine pw_aload_n d_CH_conclude_0 rfl ?_
  refine pw_aload_n d_CH_conclude_1 rfl ?_
  refine pw_getR d_CH_conclude_2 f_CH_12 rfl rfl (rfO hM rfl) ?_
  refine c_CH_conclude_5 rfl (Nat.le_of_ble_eq_true rfl) (pm_mean hM hR hD hW) ?_
  refine pw_putL d_CH_conclude_8 f_CH_112 rfl rfl rfl ?_
  refine pw_aload_n d_CH_conclude_11 rfl ?_
  refine pw_aload_n d_CH_conclude_12 rfl ?_
  refine pw_getR d_CH_conclude_13 f_CH_12 rfl rfl (rfO hM1 rfl) ?_
  refine pw_getR d_CH_conclude_16 f_CH_115 rfl rfl (rfO hM1 rfl) ?_
  refine pw_iconst 0 d_CH_conclude_19 (by decide) ?_
  refine pw_laN (n := 0) d_CH_conclude_20 rfl (by omega) (by decide) ?_
  rw [show (sL M CHK 5 (mnO V ns)).2.1 (0, 13) 0 = jV V (atL ns 0) from by rw [← g5]; simp [sL]]
  refine pw_aload_n d_CH_conclude_21 rfl ?_
  refine pw_getR d_CH_conclude_22 f_CH_12 rfl rfl (rfO hM1 rfl) ?_
  refine pw_getR d_CH_conclude_25 f_CH_119 rfl rfl (rfO hM1 rfl) ?_
  refine pw_aload_n d_CH_conclude_28 rfl ?_
  refine pw_getR d_CH_conclude_29 f_CH_12 rfl rfl (rfO hM1 rfl) ?_
  refine pw_getI d_CH_conclude_32 f_CH_60 rfl rfl ?_
  rw [hR1.1]
  refine pw_aload_n d_CH_conclude_35 rfl ?_
  refine pw_getL d_CH_conclude_36 f_CH_112 rfl rfl ?_
  simp (config := {decide := true}) only [rdII, rdLL, rdIL, rdLI, false_and, true_and, and_false, if_true, if_false]
  refine pw_iconst (-1) d_CH_conclude_39 (by decide) ?_
  refine c_CH_conclude_40 (Nat.le_of_ble_eq_true rfl) hq ?_
  refine c_CH_conclude_43 (Nat.le_of_ble_eq_true rfl) (pm_max_JJ _ _) ?_
  refine pw_putL d_CH_conclude_46 f_CH_126 rfl rfl rfl ?_
  refine pw_aload_n d_CH_conclude_49 rfl ?_
  refine pw_aload_n d_CH_conclude_50 rfl ?_
  refine pw_getR d_CH_conclude_51 f_CH_12 rfl rfl (rfO hM rfl) ?_
  refine pw_getR d_CH_conclude_54 f_CH_129 rfl rfl (rfO hM rfl) ?_
  refine pw_iconst 0 d_CH_conclude_57 (by decide) ?_
  refine pw_iaN (n := 0) d_CH_conclude_58 rfl (by omega) (by decide) ?_
  rw [show ∀ a b, (sL (sL M CHK 5 a) CHK 6 b).1 (0, 10) 0 = sV V (atL ns 0) from fun a b => g2]
  refine pw_iconst 1 d_CH_conclude_59 (by decide) ?_
  refine pw_iadd d_CH_conclude_60 ?_
  refine pw_putI d_CH_conclude_61 f_CH_133 rfl rfl rfl ?_
  refine pw_aload_n d_CH_conclude_64 rfl ?_
  refine pw_iconst 1 d_CH_conclude_65 (by decide) ?_
  refine pw_putZ d_CH_conclude_66 f_CH_136 rfl rfl rfl (by first | exact Or.inl rfl | exact Or.inr rfl) ?_
  refine pw_return d_CH_conclude_69 rfl ?_ ?_
  · rfl
  · rfl
end CH
