/-! serve and answer of the reference -/
section MA1
variable {G : GG} {l : Launch} {M : Mem}
def vrM (b : Int32) : Int32 := b / 8 - b / 8 / 8 * 8
def mdM (b : Int32) : Int32 := b - b / 8 * 8
def svOKm (len b0 : Int32) : Prop := len = 48 ∧ ¬ vrM b0 < 1 ∧ ¬ 4 < vrM b0 ∧ mdM b0 = 3
def svB (M : Mem) (ours h : Int32) : Mem := wrB byS (wrB byS (wrB byS (sI (sI (sI (sI (sI (zrO (sI M MK 0 0) 48) MK 4 48) (0, 22) 0 (8 * vrM (M.1 (0, 21) 0) + 4 + h)) (0, 22) 1 ours) (0, 22) 2 (M.1 (0, 21) 2)) (0, 22) 3 238) (0, 22) 24 8 (rdN (M.1 (0, 21)) 40 8) 8) (0, 22) 32 8 (M.2.1 MK 5) 8) (0, 22) 40 8 (M.2.1 MK 5) 8
theorem mo_serve_n (hM : M.2.2.1 = rf) (h : ¬ svOKm (M.1 MK 2) (M.1 (0, 21) 0)) : PM G l m_MO_serve [vR (some MK)] M (rI 0) (sI M MK 0 0) 0 0 := by
  refine pm_in [some (vR (some MK)), none, none, none, none, none] rfl ?_
  have e2 : (sI M MK 0 0).1 MK 2 = M.1 MK 2 := by simp [sI]
  have eb : (sI M MK 0 0).1 (0, 21) = M.1 (0, 21) := by funext j; simp [sI]
  have key : PW G l m_MO_serve 43 [some (vR (some MK)), none, none, none, none, none] [] (sI M MK 0 0) (rI 0) (sI M MK 0 0) 0 0 := by
    refine pw_iconst 0 d_MO_serve_43 (by decide) ?_
    refine pw_zreturn d_MO_serve_44 rfl ?_ ?_ ?_
    · exact Or.inl rfl
    · rfl
    · rfl
  refine pw_aload_n d_MO_serve_0 rfl ?_
  refine pw_iconst 0 d_MO_serve_1 (by decide) ?_
  refine pw_putI d_MO_serve_2 f_MO_60 rfl rfl rfl ?_
  refine pw_aload_n d_MO_serve_5 rfl ?_
  refine pw_getI d_MO_serve_6 f_MO_63 rfl rfl ?_
  rw [e2]
  refine pw_bipush (48) d_MO_serve_9 (by decide) ?_
  refine pw_icmp_ne (tgt := 43) d_MO_serve_11 (by decide) (fun h11 => ?_) (fun h11 => ?_)
  · exact key
  · refine pw_aload_n d_MO_serve_14 rfl ?_
    refine c_MO_serve_15 rfl (Nat.le_of_ble_eq_true rfl) (mo_version (M := sI M MK 0 0) hM) ?_
    refine pw_iconst 1 d_MO_serve_18 (by decide) ?_
    rw [eb]
    refine pw_icmp_lt (tgt := 43) d_MO_serve_19 (by decide) (fun h19 => ?_) (fun h19 => ?_)
    · exact key
    · refine pw_aload_n d_MO_serve_22 rfl ?_
      refine c_MO_serve_23 rfl (Nat.le_of_ble_eq_true rfl) (mo_version (M := sI M MK 0 0) hM) ?_
      refine pw_iconst 4 d_MO_serve_26 (by decide) ?_
      rw [eb]
      refine pw_icmp_gt (tgt := 43) d_MO_serve_27 (by decide) (fun h27 => ?_) (fun h27 => ?_)
      · exact key
      · refine pw_aload_n d_MO_serve_30 rfl ?_
        refine pw_getR d_MO_serve_31 f_MO_7 rfl rfl (rfO hM rfl) ?_
        refine pw_iconst 0 d_MO_serve_34 (by decide) ?_
        refine pw_iaload d_MO_serve_35 rfl (vp_in_nI (n := 0) (by decide) (by decide)) ?_
        rw [eb]
        refine pw_bipush (8) d_MO_serve_36 (by decide) ?_
        refine pw_irem d_MO_serve_38 (by decide) ?_
        refine pw_iconst 3 d_MO_serve_39 (by decide) ?_
        refine pw_icmp_eq (tgt := 45) d_MO_serve_40 (by decide) (fun h40 => ?_) (fun h40 => ?_)
        · exact absurd ⟨h11, h19, h27, h40⟩ h
        · exact key
theorem mo_serve_y (hM : M.2.2.1 = rf) (h : svOKm (M.1 MK 2) (M.1 (0, 21) 0)) : PM G l m_MO_serve [vR (some MK)] M (rI 1) (svB M (if M.1 MK 28 ≤ 15 then M.1 MK 28 else 0) (if (if M.1 MK 28 ≤ 15 then M.1 MK 28 else 0) = 0 then 192 else 0)) 0 0 := by
  refine pm_in [some (vR (some MK)), none, none, none, none, none] rfl ?_
  obtain ⟨a1, a2, a3, a4⟩ := h
  have e2 : (sI M MK 0 0).1 MK 2 = M.1 MK 2 := by simp [sI]
  have eb : (sI M MK 0 0).1 (0, 21) = M.1 (0, 21) := by funext j; simp [sI]
  have es : (sI M MK 0 0).1 MK 28 = M.1 MK 28 := by simp [sI]
  have fin : ∀ ours hh, PW G l m_MO_serve 111 [some (vR (some MK)), some (vI ours), some (vI (vrM (M.1 (0, 21) 0))), some (vI (M.1 (0, 21) 2)), some (vL (rdN (M.1 (0, 21)) 40 8)), none] [vI hh, vI (8 * vrM (M.1 (0, 21) 0) + 4), vI 0, vR (some (0, 22))] (sI (zrO (sI M MK 0 0) 48) MK 4 48) (rI 1) (svB M ours hh) 0 0 := by
    intro ours hh
    refine pw_iadd d_MO_serve_111 ?_
    refine pw_iastore d_MO_serve_112 rfl (vp_in_nI (n := 0) (by decide) (by decide)) ?_
    refine pw_aload_n d_MO_serve_113 rfl ?_
    refine pw_getR d_MO_serve_114 f_MO_13 rfl rfl (rfO hM rfl) ?_
    refine pw_iconst 1 d_MO_serve_117 (by decide) ?_
    refine pw_iload_n d_MO_serve_118 rfl ?_
    refine pw_iastore d_MO_serve_119 rfl (vp_in_nI (n := 1) (by decide) (by decide)) ?_
    refine pw_aload_n d_MO_serve_120 rfl ?_
    refine pw_getR d_MO_serve_121 f_MO_13 rfl rfl (rfO hM rfl) ?_
    refine pw_iconst 2 d_MO_serve_124 (by decide) ?_
    refine pw_iload_n d_MO_serve_125 rfl ?_
    refine pw_iastore d_MO_serve_126 rfl (vp_in_nI (n := 2) (by decide) (by decide)) ?_
    refine pw_aload_n d_MO_serve_127 rfl ?_
    refine pw_getR d_MO_serve_128 f_MO_13 rfl rfl (rfO hM rfl) ?_
    refine pw_iconst 3 d_MO_serve_131 (by decide) ?_
    refine pw_sipush (238) d_MO_serve_132 (by decide) ?_
    refine pw_iastore d_MO_serve_135 rfl (vp_in_nI (n := 3) (by decide) (by decide)) ?_
    refine pw_aload_n d_MO_serve_136 rfl ?_
    refine pw_getR d_MO_serve_137 f_MO_13 rfl rfl (rfO hM rfl) ?_
    refine pw_bipush (24) d_MO_serve_140 (by decide) ?_
    refine pw_bipush (8) d_MO_serve_142 (by decide) ?_
    refine pw_lload d_MO_serve_144 rfl ?_
    refine c_MO_serve_146 (Nat.le_of_ble_eq_true rfl) (mo_lay_o (M := sI (sI (sI (sI (sI (zrO (sI M MK 0 0) 48) MK 4 48) (0, 22) 0 (8 * vrM (M.1 (0, 21) 0) + 4 + hh)) (0, 22) 1 ours) (0, 22) 2 (M.1 (0, 21) 2)) (0, 22) 3 238) hM 24 8 _ (by decide) (by decide)) ?_
    refine pw_aload_n d_MO_serve_149 rfl ?_
    refine pw_getR d_MO_serve_150 f_MO_13 rfl rfl (rfO hM rfl) ?_
    refine pw_bipush (32) d_MO_serve_153 (by decide) ?_
    refine pw_bipush (8) d_MO_serve_155 (by decide) ?_
    refine pw_aload_n d_MO_serve_157 rfl ?_
    refine pw_getL d_MO_serve_158 f_MO_79 rfl rfl ?_
    refine c_MO_serve_161 (Nat.le_of_ble_eq_true rfl) (mo_lay_o (M := wrB byS (sI (sI (sI (sI (sI (zrO (sI M MK 0 0) 48) MK 4 48) (0, 22) 0 (8 * vrM (M.1 (0, 21) 0) + 4 + hh)) (0, 22) 1 ours) (0, 22) 2 (M.1 (0, 21) 2)) (0, 22) 3 238) (0, 22) 24 8 (rdN (M.1 (0, 21)) 40 8) 8) hM 32 8 (M.2.1 MK 5) (by decide) (by decide)) ?_
    refine pw_aload_n d_MO_serve_164 rfl ?_
    refine pw_getR d_MO_serve_165 f_MO_13 rfl rfl (rfO hM rfl) ?_
    refine pw_bipush (40) d_MO_serve_168 (by decide) ?_
    refine pw_bipush (8) d_MO_serve_170 (by decide) ?_
    refine pw_aload_n d_MO_serve_172 rfl ?_
    refine pw_getL d_MO_serve_173 f_MO_79 rfl rfl ?_
    refine c_MO_serve_176 (Nat.le_of_ble_eq_true rfl) (mo_lay_o (M := wrB byS (wrB byS (sI (sI (sI (sI (sI (zrO (sI M MK 0 0) 48) MK 4 48) (0, 22) 0 (8 * vrM (M.1 (0, 21) 0) + 4 + hh)) (0, 22) 1 ours) (0, 22) 2 (M.1 (0, 21) 2)) (0, 22) 3 238) (0, 22) 24 8 (rdN (M.1 (0, 21)) 40 8) 8) (0, 22) 32 8 (M.2.1 MK 5) 8) hM 40 8 (M.2.1 MK 5) (by decide) (by decide)) ?_
    refine pw_iconst 1 d_MO_serve_179 (by decide) ?_
    refine pw_zreturn d_MO_serve_180 rfl ?_ ?_ ?_
    · exact Or.inr rfl
    · rfl
    · rfl
  have mid : ∀ ours, PW G l m_MO_serve 62 [some (vR (some MK)), none, none, none, none, none] [vI ours] (sI M MK 0 0) (rI 1) (svB M ours (if ours = 0 then 192 else 0)) 0 0 := by
    intro ours
    refine pw_istore_n d_MO_serve_62 (by decide) ?_
    dsimp only [stL, kil, isL, cat]
    refine pw_aload_n d_MO_serve_63 rfl ?_
    refine c_MO_serve_64 rfl (Nat.le_of_ble_eq_true rfl) (mo_version (M := sI M MK 0 0) hM) ?_
    rw [eb]
    refine pw_istore_n d_MO_serve_67 (by decide) ?_
    dsimp only [stL, kil, isL, cat]
    refine pw_aload_n d_MO_serve_68 rfl ?_
    refine pw_getR d_MO_serve_69 f_MO_7 rfl rfl (rfO hM rfl) ?_
    refine pw_iconst 2 d_MO_serve_72 (by decide) ?_
    refine pw_iaload d_MO_serve_73 rfl (vp_in_nI (n := 2) (by decide) (by decide)) ?_
    rw [eb]
    refine pw_istore_n d_MO_serve_74 (by decide) ?_
    dsimp only [stL, kil, isL, cat]
    refine pw_aload_n d_MO_serve_75 rfl ?_
    refine pw_bipush (40) d_MO_serve_76 (by decide) ?_
    refine pw_bipush (8) d_MO_serve_78 (by decide) ?_
    refine c_MO_serve_80 rfl (Nat.le_of_ble_eq_true rfl) (mo_number (M := sI M MK 0 0) hM 40 8 (by decide)) ?_
    rw [eb]
    refine pw_lstore d_MO_serve_83 (by decide) ?_
    dsimp only [stL, kil, isL, cat]
    refine pw_aload_n d_MO_serve_85 rfl ?_
    refine c_MO_serve_86 rfl (Nat.le_of_ble_eq_true rfl) (mo_clearOut (M := sI M MK 0 0) hM) ?_
    refine pw_aload_n d_MO_serve_89 rfl ?_
    refine pw_getR d_MO_serve_90 f_MO_13 rfl rfl (rfO hM rfl) ?_
    refine pw_iconst 0 d_MO_serve_93 (by decide) ?_
    refine pw_bipush (8) d_MO_serve_94 (by decide) ?_
    refine pw_iload_n d_MO_serve_96 rfl ?_
    refine pw_imul d_MO_serve_97 ?_
    refine pw_iconst 4 d_MO_serve_98 (by decide) ?_
    refine pw_iadd d_MO_serve_99 ?_
    refine pw_iload_n d_MO_serve_100 rfl ?_
    refine pw_if_ne (tgt := 110) d_MO_serve_101 (by decide) (fun h101 => ?_) (fun h101 => ?_)
    · refine pw_iconst 0 d_MO_serve_110 (by decide) ?_
      rw [if_neg h101]
      exact fin ours 0
    · refine pw_sipush (192) d_MO_serve_104 (by decide) ?_
      refine pw_goto (tgt := 111) d_MO_serve_107 (by decide) ?_
      rw [if_pos h101]
      exact fin ours 192
  refine pw_aload_n d_MO_serve_0 rfl ?_
  refine pw_iconst 0 d_MO_serve_1 (by decide) ?_
  refine pw_putI d_MO_serve_2 f_MO_60 rfl rfl rfl ?_
  refine pw_aload_n d_MO_serve_5 rfl ?_
  refine pw_getI d_MO_serve_6 f_MO_63 rfl rfl ?_
  rw [e2]
  refine pw_bipush (48) d_MO_serve_9 (by decide) ?_
  refine pw_icmp_ne (tgt := 43) d_MO_serve_11 (by decide) (fun h => absurd a1 h) (fun _ => ?_)
  refine pw_aload_n d_MO_serve_14 rfl ?_
  refine c_MO_serve_15 rfl (Nat.le_of_ble_eq_true rfl) (mo_version (M := sI M MK 0 0) hM) ?_
  refine pw_iconst 1 d_MO_serve_18 (by decide) ?_
  rw [eb]
  refine pw_icmp_lt (tgt := 43) d_MO_serve_19 (by decide) (fun h => absurd h a2) (fun _ => ?_)
  refine pw_aload_n d_MO_serve_22 rfl ?_
  refine c_MO_serve_23 rfl (Nat.le_of_ble_eq_true rfl) (mo_version (M := sI M MK 0 0) hM) ?_
  refine pw_iconst 4 d_MO_serve_26 (by decide) ?_
  rw [eb]
  refine pw_icmp_gt (tgt := 43) d_MO_serve_27 (by decide) (fun h => absurd h a3) (fun _ => ?_)
  refine pw_aload_n d_MO_serve_30 rfl ?_
  refine pw_getR d_MO_serve_31 f_MO_7 rfl rfl (rfO hM rfl) ?_
  refine pw_iconst 0 d_MO_serve_34 (by decide) ?_
  refine pw_iaload d_MO_serve_35 rfl (vp_in_nI (n := 0) (by decide) (by decide)) ?_
  rw [eb]
  refine pw_bipush (8) d_MO_serve_36 (by decide) ?_
  refine pw_irem d_MO_serve_38 (by decide) ?_
  refine pw_iconst 3 d_MO_serve_39 (by decide) ?_
  refine pw_icmp_eq (tgt := 45) d_MO_serve_40 (by decide) (fun _ => ?_) (fun h => absurd a4 h)
  refine pw_aload_n d_MO_serve_45 rfl ?_
  refine pw_getI d_MO_serve_46 f_MO_184 rfl rfl ?_
  rw [es]
  refine pw_bipush (15) d_MO_serve_49 (by decide) ?_
  refine pw_icmp_le (tgt := 58) d_MO_serve_51 (by decide) (fun h51 => ?_) (fun h51 => ?_)
  · refine pw_aload_n d_MO_serve_58 rfl ?_
    refine pw_getI d_MO_serve_59 f_MO_184 rfl rfl ?_
    rw [es]
    have q := mid (M.1 MK 28)
    rw [if_pos h51]
    exact q
  · refine pw_iconst 0 d_MO_serve_54 (by decide) ?_
    refine pw_goto (tgt := 62) d_MO_serve_55 (by decide) ?_
    have q := mid 0
    rw [if_neg h51]
    exact q
def zrT (M : Mem) (i : Nat) : Mem := (fun q j => if q = (0, 21) ∧ j < i then 0 else M.1 q j, M.2)
def anB (M : Mem) (s : Int64) (lv dl dp : Int32) (off way held : Int64) : Mem := wrB byS (wrB byS (wrB byS (wrB byS (wrB byS (sI (sI (sI (zrT M 48) MK 2 48) (0, 21) 0 36) (0, 21) 1 lv) (0, 21) 4 4 dl.toInt64 4) (0, 21) 8 4 dp.toInt64 4) (0, 21) 24 8 s 8) (0, 21) 32 8 (s + off + way) 8) (0, 21) 40 8 (s + off + way + held) 8
def anD (M : Mem) (p : Nat) (lv dl dp : Int32) (off way held back : Int64) : Mem := sL (anB (sI (sI M MK 0 0) MK 0 0) (M.2.1 (0, 23) p) lv dl dp off way held) MK 5 (M.2.1 MK 5 + (way + held + back))
theorem lp_moans (hM : M.2.2.1 = rf) (o : PO) (M' : Mem) (pp lv dl dp : Int32) (off way held back : Int64) (hend : PW G l m_MO_answer 108 [some (vR (some MK)), some (vI pp), some (vI lv), some (vI dl), some (vI dp), some (vL off), none, some (vL way), none, some (vL held), none, some (vL back), none, some (vI 1), some (vI (nI 48))] [] (zrT M 48) o M' 0 0) : ∀ (m i : Nat), i + m = 48 → PW G l m_MO_answer 87 [some (vR (some MK)), some (vI pp), some (vI lv), some (vI dl), some (vI dp), some (vL off), none, some (vL way), none, some (vL held), none, some (vL back), none, some (vI 1), some (vI (nI i))] [] (zrT M i) o M' 0 0 := by
  intro m
  induction m with
  | zero =>
    intro i hi
    have : i = 48 := by omega
    subst this
    refine pw_iload d_MO_answer_87 rfl ?_
    refine pw_bipush (48) d_MO_answer_89 (by decide) ?_
    refine pw_icmp_ge (tgt := 108) d_MO_answer_91 (by decide) (fun h => ?_) (fun h => ?_)
    · exact hend
    · exact absurd (nI_le (Nat.le_refl 48) (by omega)) h
  | succ m ih =>
    intro i hi
    refine pw_iload d_MO_answer_87 rfl ?_
    refine pw_bipush (48) d_MO_answer_89 (by decide) ?_
    refine pw_icmp_ge (tgt := 108) d_MO_answer_91 (by decide) (fun h => ?_) (fun h => ?_)
    · exact absurd h (nI_ge (b := 48) (by omega) (by decide))
    · refine pw_aload_n d_MO_answer_94 rfl ?_
      refine pw_getR d_MO_answer_95 f_MO_7 rfl rfl (rfO hM rfl) ?_
      refine pw_iload d_MO_answer_98 rfl ?_
      refine pw_iconst 0 d_MO_answer_100 (by decide) ?_
      refine pw_iastore d_MO_answer_101 rfl (vp_in_nI (by omega) (by decide)) ?_
      rw [nI_clamp (by omega)]
      refine pw_iinc 1 d_MO_answer_102 rfl (by decide) (by decide) ?_
      refine pw_goto (tgt := 87) d_MO_answer_105 (by decide) ?_
      rw [nI_1]
      have e : sI (zrT M i) (0, 21) i 0 = zrT M (i + 1) := by
        unfold sI zrT
        congr 1
        funext q j
        by_cases hq : q = (0, 21)
        · subst hq
          by_cases hj : j = i
          · subst hj; simp
          · by_cases a1 : j < i
            · simp [a1, show j < i + 1 by omega, hj]
            · have a2 : ¬ (j < i + 1) := by omega
              simp only [true_and, a1, a2, hj, if_false]
        · simp [hq]
      rw [e]
      exact ih (i + 1) (by omega)
theorem mo_answer_x1 (p lv dl dp : Int32) (off way held back : Int64) (hp : p < 0 ∨ 8 ≤ p) : PM G l m_MO_answer [vR (some MK), vI p, vI lv, vI dl, vI dp, vL off, vL way, vL held, vL back] M (rL 0) (sI M MK 0 1) 0 0 := by
  refine pm_in [some (vR (some MK)), some (vI p), some (vI lv), some (vI dl), some (vI dp), some (vL off), none, some (vL way), none, some (vL held), none, some (vL back), none, none, none] rfl ?_
  have e : (if p < 0 then (1 : Int32) else if p < 8 then 0 else 1) = 1 := by
    rcases hp with h | h
    · rw [if_pos h]
    · rw [if_neg (c := p < 8) ((i32_nlt _ _).mpr h)]; split <;> rfl
  refine pw_aload_n d_MO_answer_0 rfl ?_
  refine pw_iload_n d_MO_answer_1 rfl ?_
  refine c_MO_answer_2 rfl (Nat.le_of_ble_eq_true rfl) (mo_noPeer _) ?_
  rw [e]
  refine pw_if_eq (tgt := 10) d_MO_answer_5 (by decide) (fun h => absurd h (by decide)) (fun _ => ?_)
  refine pw_lconst 0 d_MO_answer_8 (by decide) ?_
  refine pw_lreturn d_MO_answer_9 rfl ?_ ?_
  · rfl
  · rfl
def anOKm (lv dl dp : Int32) (way held back : Int64) : Prop := ¬ lv < 0 ∧ ¬ 256 ≤ lv ∧ ¬ dl < 0 ∧ ¬ dp < 0 ∧ isTr way ∧ isTr held ∧ isTr back
theorem mo_answer_x2 (p : Nat) (hp : p < 8) (lv dl dp : Int32) (off way held back : Int64) (h : ¬ anOKm lv dl dp way held back) : PM G l m_MO_answer [vR (some MK), vI (nI p), vI lv, vI dl, vI dp, vL off, vL way, vL held, vL back] M (rL 0) (sI (sI M MK 0 0) MK 0 2) 0 0 := by
  refine pm_in [some (vR (some MK)), some (vI (nI p)), some (vI lv), some (vI dl), some (vI dp), some (vL off), none, some (vL way), none, some (vL held), none, some (vL back), none, none, none] rfl ?_
  have h8 : nI p < 8 := nI_lt (b := 8) hp (by decide)
  have h0 : ¬ nI p < 0 := nI_pos (by omega)
  have key : PW G l m_MO_answer 58 [some (vR (some MK)), some (vI (nI p)), some (vI lv), some (vI dl), some (vI dp), some (vL off), none, some (vL way), none, some (vL held), none, some (vL back), none, none, none] [] (sI M MK 0 0) (rL 0) (sI (sI M MK 0 0) MK 0 2) 0 0 := by
    refine pw_iconst 0 d_MO_answer_58 (by decide) ?_
    refine pw_istore d_MO_answer_59 (by decide) ?_
    dsimp only [stL, kil, isL, cat]
    refine pw_aload_n d_MO_answer_61 rfl ?_
    refine pw_iload d_MO_answer_62 rfl ?_
    refine pw_if_eq (tgt := 71) d_MO_answer_64 (by decide) (fun _ => ?_) (fun h => absurd (by decide) h)
    refine pw_iconst 2 d_MO_answer_71 (by decide) ?_
    refine pw_putI d_MO_answer_72 f_MO_60 rfl rfl rfl ?_
    refine pw_aload_n d_MO_answer_75 rfl ?_
    refine pw_getI d_MO_answer_76 f_MO_60 rfl rfl ?_
    rw [sI_s]
    refine pw_if_le (tgt := 84) d_MO_answer_79 (by decide) (fun h => absurd h (by decide)) (fun _ => ?_)
    refine pw_lconst 0 d_MO_answer_82 (by decide) ?_
    refine pw_lreturn d_MO_answer_83 rfl ?_ ?_
    · rfl
    · rfl
  refine pw_aload_n d_MO_answer_0 rfl ?_
  refine pw_iload_n d_MO_answer_1 rfl ?_
  refine c_MO_answer_2 rfl (Nat.le_of_ble_eq_true rfl) (mo_noPeer _) ?_
  rw [if_neg h0, if_pos h8]
  refine pw_if_eq (tgt := 10) d_MO_answer_5 (by decide) (fun _ => ?_) (fun h => absurd (by decide) h)
  refine pw_iload_n d_MO_answer_10 rfl ?_
  refine pw_if_lt (tgt := 58) d_MO_answer_11 (by decide) (fun b1 => ?_) (fun b1 => ?_)
  · exact key
  · refine pw_iload_n d_MO_answer_14 rfl ?_
    refine pw_sipush (256) d_MO_answer_15 (by decide) ?_
    refine pw_icmp_ge (tgt := 58) d_MO_answer_18 (by decide) (fun b2 => ?_) (fun b2 => ?_)
    · exact key
    · refine pw_iload_n d_MO_answer_21 rfl ?_
      refine pw_if_lt (tgt := 58) d_MO_answer_22 (by decide) (fun b3 => ?_) (fun b3 => ?_)
      · exact key
      · refine pw_iload d_MO_answer_25 rfl ?_
        refine pw_if_lt (tgt := 58) d_MO_answer_27 (by decide) (fun b4 => ?_) (fun b4 => ?_)
        · exact key
        · refine pw_lload d_MO_answer_30 rfl ?_
          refine c_MO_answer_32 (Nat.le_of_ble_eq_true rfl) (mo_isWay way) ?_
          rcases tr_if way with ⟨e, hw⟩ | ⟨e, hw⟩
          · rw [e]
            refine pw_if_eq (tgt := 58) d_MO_answer_35 (by decide) (fun _ => ?_) (fun h => absurd (by decide) h)
            exact key
          · rw [e]
            refine pw_if_eq (tgt := 58) d_MO_answer_35 (by decide) (fun h => absurd h (by decide)) (fun _ => ?_)
            refine pw_lload d_MO_answer_38 rfl ?_
            refine c_MO_answer_40 (Nat.le_of_ble_eq_true rfl) (mo_isWay held) ?_
            rcases tr_if held with ⟨e, hh⟩ | ⟨e, hh⟩
            · rw [e]
              refine pw_if_eq (tgt := 58) d_MO_answer_43 (by decide) (fun _ => ?_) (fun h => absurd (by decide) h)
              exact key
            · rw [e]
              refine pw_if_eq (tgt := 58) d_MO_answer_43 (by decide) (fun h => absurd h (by decide)) (fun _ => ?_)
              refine pw_lload d_MO_answer_46 rfl ?_
              refine c_MO_answer_48 (Nat.le_of_ble_eq_true rfl) (mo_isWay back) ?_
              rcases tr_if back with ⟨e, hb⟩ | ⟨e, hb⟩
              · rw [e]
                refine pw_if_eq (tgt := 58) d_MO_answer_51 (by decide) (fun _ => ?_) (fun h => absurd (by decide) h)
                exact key
              · exact absurd ⟨b1, b2, b3, b4, hw, hh, hb⟩ h
theorem mo_answer (hM : M.2.2.1 = rf) (p : Nat) (hp : p < 8) (lv dl dp : Int32) (off way held back : Int64) (h : anOKm lv dl dp way held back) : PM G l m_MO_answer [vR (some MK), vI (nI p), vI lv, vI dl, vI dp, vL off, vL way, vL held, vL back] M (rL (M.2.1 MK 5 + (way + held + back))) (anD M p lv dl dp off way held back) 0 0 := by
  refine pm_in [some (vR (some MK)), some (vI (nI p)), some (vI lv), some (vI dl), some (vI dp), some (vL off), none, some (vL way), none, some (vL held), none, some (vL back), none, none, none] rfl ?_
  have h8 : nI p < 8 := nI_lt (b := 8) hp (by decide)
  have h0 : ¬ nI p < 0 := nI_pos (by omega)
  obtain ⟨b1, b2, b3, b4, a5, a6, a7⟩ := h
  refine pw_aload_n d_MO_answer_0 rfl ?_
  refine pw_iload_n d_MO_answer_1 rfl ?_
  refine c_MO_answer_2 rfl (Nat.le_of_ble_eq_true rfl) (mo_noPeer _) ?_
  rw [if_neg h0, if_pos h8]
  refine pw_if_eq (tgt := 10) d_MO_answer_5 (by decide) (fun _ => ?_) (fun h => absurd (by decide) h)
  refine pw_iload_n d_MO_answer_10 rfl ?_
  refine pw_if_lt (tgt := 58) d_MO_answer_11 (by decide) (fun h => absurd h b1) (fun _ => ?_)
  refine pw_iload_n d_MO_answer_14 rfl ?_
  refine pw_sipush (256) d_MO_answer_15 (by decide) ?_
  refine pw_icmp_ge (tgt := 58) d_MO_answer_18 (by decide) (fun h => absurd h b2) (fun _ => ?_)
  refine pw_iload_n d_MO_answer_21 rfl ?_
  refine pw_if_lt (tgt := 58) d_MO_answer_22 (by decide) (fun h => absurd h b3) (fun _ => ?_)
  refine pw_iload d_MO_answer_25 rfl ?_
  refine pw_if_lt (tgt := 58) d_MO_answer_27 (by decide) (fun h => absurd h b4) (fun _ => ?_)
  refine pw_lload d_MO_answer_30 rfl ?_
  refine c_MO_answer_32 (Nat.le_of_ble_eq_true rfl) (mo_isWay way) ?_
  rw [if_neg a5.1, if_neg a5.2]
  refine pw_if_eq (tgt := 58) d_MO_answer_35 (by decide) (fun h => absurd h (by decide)) (fun _ => ?_)
  refine pw_lload d_MO_answer_38 rfl ?_
  refine c_MO_answer_40 (Nat.le_of_ble_eq_true rfl) (mo_isWay held) ?_
  rw [if_neg a6.1, if_neg a6.2]
  refine pw_if_eq (tgt := 58) d_MO_answer_43 (by decide) (fun h => absurd h (by decide)) (fun _ => ?_)
  refine pw_lload d_MO_answer_46 rfl ?_
  refine c_MO_answer_48 (Nat.le_of_ble_eq_true rfl) (mo_isWay back) ?_
  rw [if_neg a7.1, if_neg a7.2]
  refine pw_if_eq (tgt := 58) d_MO_answer_51 (by decide) (fun h => absurd h (by decide)) (fun _ => ?_)
  refine pw_iconst 1 d_MO_answer_54 (by decide) ?_
  refine pw_goto (tgt := 59) d_MO_answer_55 (by decide) ?_
  refine pw_istore d_MO_answer_59 (by decide) ?_
  dsimp only [stL, kil, isL, cat]
  refine pw_aload_n d_MO_answer_61 rfl ?_
  refine pw_iload d_MO_answer_62 rfl ?_
  refine pw_if_eq (tgt := 71) d_MO_answer_64 (by decide) (fun h => absurd h (by decide)) (fun _ => ?_)
  refine pw_iconst 0 d_MO_answer_67 (by decide) ?_
  refine pw_goto (tgt := 72) d_MO_answer_68 (by decide) ?_
  refine pw_putI d_MO_answer_72 f_MO_60 rfl rfl rfl ?_
  refine pw_aload_n d_MO_answer_75 rfl ?_
  refine pw_getI d_MO_answer_76 f_MO_60 rfl rfl ?_
  rw [sI_s]
  refine pw_if_le (tgt := 84) d_MO_answer_79 (by decide) (fun _ => ?_) (fun h => absurd (by decide) h)
  refine pw_iconst 0 d_MO_answer_84 (by decide) ?_
  refine pw_istore d_MO_answer_85 (by decide) ?_
  dsimp only [stL, kil, isL, cat]
  have e0 : zrT (sI (sI M MK 0 0) MK 0 0) 0 = sI (sI M MK 0 0) MK 0 0 := by
    unfold zrT
    refine Prod.ext ?_ rfl
    funext q j
    show ite _ _ _ = _
    rw [if_neg (fun c => by omega)]
  have hh := lp_moans (G := G) (l := l) (M := sI (sI M MK 0 0) MK 0 0) hM (rL (M.2.1 MK 5 + (way + held + back))) (anD M p lv dl dp off way held back) (nI p) lv dl dp off way held back ?_ 48 0 (by omega)
  · rw [e0] at hh
    exact hh
  · refine pw_aload_n d_MO_answer_108 rfl ?_
    refine pw_bipush (48) d_MO_answer_109 (by decide) ?_
    refine pw_putI d_MO_answer_111 f_MO_63 rfl rfl rfl ?_
    refine pw_aload_n d_MO_answer_114 rfl ?_
    refine pw_getR d_MO_answer_115 f_MO_7 rfl rfl (rfO hM rfl) ?_
    refine pw_iconst 0 d_MO_answer_118 (by decide) ?_
    refine pw_bipush (36) d_MO_answer_119 (by decide) ?_
    refine pw_iastore d_MO_answer_121 rfl (vp_in_nI (n := 0) (by decide) (by decide)) ?_
    refine pw_aload_n d_MO_answer_122 rfl ?_
    refine pw_getR d_MO_answer_123 f_MO_7 rfl rfl (rfO hM rfl) ?_
    refine pw_iconst 1 d_MO_answer_126 (by decide) ?_
    refine pw_iload_n d_MO_answer_127 rfl ?_
    refine pw_iastore d_MO_answer_128 rfl (vp_in_nI (n := 1) (by decide) (by decide)) ?_
    refine pw_aload_n d_MO_answer_129 rfl ?_
    refine pw_getR d_MO_answer_130 f_MO_7 rfl rfl (rfO hM rfl) ?_
    refine pw_iconst 4 d_MO_answer_133 (by decide) ?_
    refine pw_iconst 4 d_MO_answer_134 (by decide) ?_
    refine pw_iload_n d_MO_answer_135 rfl ?_
    refine pw_i2l d_MO_answer_136 ?_
    refine c_MO_answer_137 (Nat.le_of_ble_eq_true rfl) (mo_lay_t (M := sI (sI (sI (zrT (sI (sI M MK 0 0) MK 0 0) 48) MK 2 48) (0, 21) 0 36) (0, 21) 1 lv) hM 4 4 _ (by decide) (by decide)) ?_
    refine pw_aload_n d_MO_answer_140 rfl ?_
    refine pw_getR d_MO_answer_141 f_MO_7 rfl rfl (rfO hM rfl) ?_
    refine pw_bipush (8) d_MO_answer_144 (by decide) ?_
    refine pw_iconst 4 d_MO_answer_146 (by decide) ?_
    refine pw_iload d_MO_answer_147 rfl ?_
    refine pw_i2l d_MO_answer_149 ?_
    refine c_MO_answer_150 (Nat.le_of_ble_eq_true rfl) (mo_lay_t (M := wrB byS (sI (sI (sI (zrT (sI (sI M MK 0 0) MK 0 0) 48) MK 2 48) (0, 21) 0 36) (0, 21) 1 lv) (0, 21) 4 4 dl.toInt64 4) hM 8 4 _ (by decide) (by decide)) ?_
    refine pw_aload_n d_MO_answer_153 rfl ?_
    refine pw_getR d_MO_answer_154 f_MO_7 rfl rfl (rfO hM rfl) ?_
    refine pw_bipush (24) d_MO_answer_157 (by decide) ?_
    refine pw_bipush (8) d_MO_answer_159 (by decide) ?_
    refine pw_aload_n d_MO_answer_161 rfl ?_
    refine pw_getR d_MO_answer_162 f_MO_16 rfl rfl (rfO hM rfl) ?_
    refine pw_iload_n d_MO_answer_165 rfl ?_
    refine pw_laload d_MO_answer_166 rfl (vp_in_nI hp (by decide)) ?_
    rw [nI_clamp (by omega)]
    refine c_MO_answer_167 (Nat.le_of_ble_eq_true rfl) (mo_lay_t (M := wrB byS (wrB byS (sI (sI (sI (zrT (sI (sI M MK 0 0) MK 0 0) 48) MK 2 48) (0, 21) 0 36) (0, 21) 1 lv) (0, 21) 4 4 dl.toInt64 4) (0, 21) 8 4 dp.toInt64 4) hM 24 8 (M.2.1 (0, 23) p) (by decide) (by decide)) ?_
    refine pw_aload_n d_MO_answer_170 rfl ?_
    refine pw_getR d_MO_answer_171 f_MO_7 rfl rfl (rfO hM rfl) ?_
    refine pw_bipush (32) d_MO_answer_174 (by decide) ?_
    refine pw_bipush (8) d_MO_answer_176 (by decide) ?_
    refine pw_aload_n d_MO_answer_178 rfl ?_
    refine pw_getR d_MO_answer_179 f_MO_16 rfl rfl (rfO hM rfl) ?_
    refine pw_iload_n d_MO_answer_182 rfl ?_
    refine pw_laload d_MO_answer_183 rfl (vp_in_nI hp (by decide)) ?_
    rw [nI_clamp (by omega)]
    refine pw_lload d_MO_answer_184 rfl ?_
    refine pw_ladd d_MO_answer_186 ?_
    refine pw_lload d_MO_answer_187 rfl ?_
    refine pw_ladd d_MO_answer_189 ?_
    refine c_MO_answer_190 (Nat.le_of_ble_eq_true rfl) (mo_lay_t (M := wrB byS (wrB byS (wrB byS (sI (sI (sI (zrT (sI (sI M MK 0 0) MK 0 0) 48) MK 2 48) (0, 21) 0 36) (0, 21) 1 lv) (0, 21) 4 4 dl.toInt64 4) (0, 21) 8 4 dp.toInt64 4) (0, 21) 24 8 (M.2.1 (0, 23) p) 8) hM 32 8 (M.2.1 (0, 23) p + off + way) (by decide) (by decide)) ?_
    refine pw_aload_n d_MO_answer_193 rfl ?_
    refine pw_getR d_MO_answer_194 f_MO_7 rfl rfl (rfO hM rfl) ?_
    refine pw_bipush (40) d_MO_answer_197 (by decide) ?_
    refine pw_bipush (8) d_MO_answer_199 (by decide) ?_
    refine pw_aload_n d_MO_answer_201 rfl ?_
    refine pw_getR d_MO_answer_202 f_MO_16 rfl rfl (rfO hM rfl) ?_
    refine pw_iload_n d_MO_answer_205 rfl ?_
    refine pw_laload d_MO_answer_206 rfl (vp_in_nI hp (by decide)) ?_
    rw [nI_clamp (by omega)]
    refine pw_lload d_MO_answer_207 rfl ?_
    refine pw_ladd d_MO_answer_209 ?_
    refine pw_lload d_MO_answer_210 rfl ?_
    refine pw_ladd d_MO_answer_212 ?_
    refine pw_lload d_MO_answer_213 rfl ?_
    refine pw_ladd d_MO_answer_215 ?_
    refine c_MO_answer_216 (Nat.le_of_ble_eq_true rfl) (mo_lay_t (M := wrB byS (wrB byS (wrB byS (wrB byS (sI (sI (sI (zrT (sI (sI M MK 0 0) MK 0 0) 48) MK 2 48) (0, 21) 0 36) (0, 21) 1 lv) (0, 21) 4 4 dl.toInt64 4) (0, 21) 8 4 dp.toInt64 4) (0, 21) 24 8 (M.2.1 (0, 23) p) 8) (0, 21) 32 8 (M.2.1 (0, 23) p + off + way) 8) hM 40 8 (M.2.1 (0, 23) p + off + way + held) (by decide) (by decide)) ?_
    refine pw_aload_n d_MO_answer_219 rfl ?_
    refine pw_dup d_MO_answer_220 rfl ?_
    refine pw_getL d_MO_answer_221 f_MO_79 rfl rfl ?_
    refine pw_lload d_MO_answer_224 rfl ?_
    refine pw_lload d_MO_answer_226 rfl ?_
    refine pw_ladd d_MO_answer_228 ?_
    refine pw_lload d_MO_answer_229 rfl ?_
    refine pw_ladd d_MO_answer_231 ?_
    refine pw_ladd d_MO_answer_232 ?_
    refine pw_putL d_MO_answer_233 f_MO_79 rfl rfl rfl ?_
    refine pw_aload_n d_MO_answer_236 rfl ?_
    refine pw_getL d_MO_answer_237 f_MO_79 rfl rfl ?_
    refine pw_lreturn d_MO_answer_240 rfl ?_ ?_
    · exact congrArg rL (by simp [sL, wrB, sI, zrT])
    · rfl
end MA1
