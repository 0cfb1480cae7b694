/-! answer of the class -/
section AN1
variable {G : GG} {l : Launch} {M : Mem}
/-- the tape as a reply -/
def anM (M : Mem) (s : Int64) (lv dl dp : Int32) (off way held : Int64) : Mem := wrB byU (wrB byU (wrB byU (wrB byU (wrB byU (sI (blnk_t M (64 * 0 + 8 * 4 + 4)) (0, 2) 1 lv) (0, 2) 4 4 dl.toInt64 4) (0, 2) 8 4 dp.toInt64 4) (0, 2) 24 8 s 8) (0, 2) 32 8 (s + off + way) 8) (0, 2) 40 8 (s + off + way + held) 8
def anC (M : Mem) (p : Nat) (lv dl dp : Int32) (off way held back : Int64) : Mem := sL (anM M (M.2.1 (p + 1, 0) 0) lv dl dp off way held) (0, 5) 0 (M.2.1 (0, 5) 0 + (way + held + back))
def isTr (x : Int64) : Prop := ¬ x < 0 ∧ ¬ 1099511627776 < x
def anOK (lv dl dp : Int32) (way held back : Int64) : Prop := (¬ lv < 0 ∧ lv ≤ 255) ∧ (¬ dl < 0 ∧ ¬ dp < 0) ∧ isTr way ∧ isTr held ∧ isTr back
theorem tr_if (x : Int64) : (if x < 0 then (0 : Int32) else if 1099511627776 < x then 0 else 1) = 0 ∧ ¬ isTr x ∨ (if x < 0 then (0 : Int32) else if 1099511627776 < x then 0 else 1) = 1 ∧ isTr x := by
  unfold isTr
  by_cases h : x < 0
  · left; simp [h]
  · by_cases h2 : 1099511627776 < x
    · left; simp [h, h2]
    · right; simp [h, h2]
theorem pm_answer_x2 (hM : M.2.2.1 = rf) (p lv dl dp : Int32) (off way held back : Int64) (hp : p < 0 ∨ 8 ≤ p) : PM G l m_TK_answer [vR (some TKK), vI p, vI lv, vI dl, vI dp, vL off, vL way, vL held, vL back] M (tE 2) M 1 6 := by
  refine pm_in [some (vR (some TKK)), some (vI p), some (vI lv), some (vI dl), some (vI dp), some (vL off), none, some (vL way), none, some (vL held), none, some (vL back), none, none, none, none] rfl ?_
  refine pw_aload_n d_TK_answer_0 rfl ?_
  refine pw_iload_n d_TK_answer_1 rfl ?_
  exact cX_TK_answer_2 rfl (Nat.le_of_ble_eq_true rfl) (pm_known_x hM p hp) rfl rfl
theorem pm_answer_x0 (hM : M.2.2.1 = rf) (p : Nat) (hp : p < 8) (lv dl dp : Int32) (off way held back : Int64) (h : ¬ anOK lv dl dp way held back) : PM G l m_TK_answer [vR (some TKK), vI (nI p), vI lv, vI dl, vI dp, vL off, vL way, vL held, vL back] M (tE 0) M 1 6 := by
  refine pm_in [some (vR (some TKK)), some (vI (nI p)), some (vI lv), some (vI dl), some (vI dp), some (vL off), none, some (vL way), none, some (vL held), none, some (vL back), none, none, none, none] rfl ?_
  refine pw_aload_n d_TK_answer_0 rfl ?_
  refine pw_iload_n d_TK_answer_1 rfl ?_
  refine c_TK_answer_2 rfl (Nat.le_of_ble_eq_true rfl) (pm_known hM p hp) ?_
  refine pw_astore d_TK_answer_5 (by decide) ?_
  dsimp only [stL, kil, isL, cat]
  refine pw_iload_n d_TK_answer_7 rfl ?_
  refine pw_if_lt (tgt := 18) d_TK_answer_8 (by decide) (fun h8 => ?_) (fun h8 => ?_)
  · exact th_TK_answer_18 (Nat.le_of_ble_eq_true rfl) rfl rfl
  · refine pw_iload_n d_TK_answer_11 rfl ?_
    refine pw_sipush (255) d_TK_answer_12 (by decide) ?_
    refine pw_icmp_le (tgt := 28) d_TK_answer_15 (by decide) (fun h15 => ?_) (fun h15 => ?_)
    · refine pw_iload_n d_TK_answer_28 rfl ?_
      refine pw_if_lt (tgt := 37) d_TK_answer_29 (by decide) (fun h29 => ?_) (fun h29 => ?_)
      · exact th_TK_answer_37 (Nat.le_of_ble_eq_true rfl) rfl rfl
      · refine pw_iload d_TK_answer_32 rfl ?_
        refine pw_if_ge (tgt := 47) d_TK_answer_34 (by decide) (fun h34 => ?_) (fun h34 => ?_)
        · refine pw_lload d_TK_answer_47 rfl ?_
          refine c_TK_answer_49 (Nat.le_of_ble_eq_true rfl) (pm_isTravel way) ?_
          rcases tr_if way with ⟨e, hw⟩ | ⟨e, hw⟩
          · rw [e]
            refine pw_if_eq (tgt := 71) d_TK_answer_52 (by decide) (fun _ => ?_) (fun h => absurd (by decide) h)
            exact th_TK_answer_71 (Nat.le_of_ble_eq_true rfl) rfl rfl
          · rw [e]
            refine pw_if_eq (tgt := 71) d_TK_answer_52 (by decide) (fun h => absurd h (by decide)) (fun _ => ?_)
            refine pw_lload d_TK_answer_55 rfl ?_
            refine c_TK_answer_57 (Nat.le_of_ble_eq_true rfl) (pm_isTravel held) ?_
            rcases tr_if held with ⟨e, hh⟩ | ⟨e, hh⟩
            · rw [e]
              refine pw_if_eq (tgt := 71) d_TK_answer_60 (by decide) (fun _ => ?_) (fun h => absurd (by decide) h)
              exact th_TK_answer_71 (Nat.le_of_ble_eq_true rfl) rfl rfl
            · rw [e]
              refine pw_if_eq (tgt := 71) d_TK_answer_60 (by decide) (fun h => absurd h (by decide)) (fun _ => ?_)
              refine pw_lload d_TK_answer_63 rfl ?_
              refine c_TK_answer_65 (Nat.le_of_ble_eq_true rfl) (pm_isTravel back) ?_
              rcases tr_if back with ⟨e, hb⟩ | ⟨e, hb⟩
              · rw [e]
                refine pw_if_ne (tgt := 81) d_TK_answer_68 (by decide) (fun h => absurd (by decide) h) (fun _ => ?_)
                exact th_TK_answer_71 (Nat.le_of_ble_eq_true rfl) rfl rfl
              · exact absurd ⟨⟨h8, h15⟩, ⟨h29, (i32_nlt _ _).mpr h34⟩, hw, hh, hb⟩ h
        · exact th_TK_answer_37 (Nat.le_of_ble_eq_true rfl) rfl rfl
    · exact th_TK_answer_18 (Nat.le_of_ble_eq_true rfl) rfl rfl
theorem pm_answer (hM : M.2.2.1 = rf) (p : Nat) (hp : p < 8) (lv dl dp : Int32) (off way held back : Int64) (h : anOK lv dl dp way held back) : PM G l m_TK_answer [vR (some TKK), vI (nI p), vI lv, vI dl, vI dp, vL off, vL way, vL held, vL back] M (rL (M.2.1 (0, 5) 0 + (way + held + back))) (anC M p lv dl dp off way held back) 0 0 := by
  refine pm_in [some (vR (some TKK)), some (vI (nI p)), some (vI lv), some (vI dl), some (vI dp), some (vL off), none, some (vL way), none, some (vL held), none, some (vL back), none, none, none, none] rfl ?_
  obtain ⟨⟨a1, a2⟩, ⟨a3, a4⟩, a5, a6, a7⟩ := h
  refine pw_aload_n d_TK_answer_0 rfl ?_
  refine pw_iload_n d_TK_answer_1 rfl ?_
  refine c_TK_answer_2 rfl (Nat.le_of_ble_eq_true rfl) (pm_known hM p hp) ?_
  refine pw_astore d_TK_answer_5 (by decide) ?_
  dsimp only [stL, kil, isL, cat]
  refine pw_iload_n d_TK_answer_7 rfl ?_
  refine pw_if_lt (tgt := 18) d_TK_answer_8 (by decide) (fun h => absurd h a1) (fun _ => ?_)
  refine pw_iload_n d_TK_answer_11 rfl ?_
  refine pw_sipush (255) d_TK_answer_12 (by decide) ?_
  refine pw_icmp_le (tgt := 28) d_TK_answer_15 (by decide) (fun _ => ?_) (fun h => absurd a2 h)
  refine pw_iload_n d_TK_answer_28 rfl ?_
  refine pw_if_lt (tgt := 37) d_TK_answer_29 (by decide) (fun h => absurd h a3) (fun _ => ?_)
  refine pw_iload d_TK_answer_32 rfl ?_
  refine pw_if_ge (tgt := 47) d_TK_answer_34 (by decide) (fun _ => ?_) (fun h => absurd ((i32_nlt _ _).mp a4) h)
  refine pw_lload d_TK_answer_47 rfl ?_
  refine c_TK_answer_49 (Nat.le_of_ble_eq_true rfl) (pm_isTravel way) ?_
  rw [if_neg a5.1, if_neg a5.2]
  refine pw_if_eq (tgt := 71) d_TK_answer_52 (by decide) (fun h => absurd h (by decide)) (fun _ => ?_)
  refine pw_lload d_TK_answer_55 rfl ?_
  refine c_TK_answer_57 (Nat.le_of_ble_eq_true rfl) (pm_isTravel held) ?_
  rw [if_neg a6.1, if_neg a6.2]
  refine pw_if_eq (tgt := 71) d_TK_answer_60 (by decide) (fun h => absurd h (by decide)) (fun _ => ?_)
  refine pw_lload d_TK_answer_63 rfl ?_
  refine c_TK_answer_65 (Nat.le_of_ble_eq_true rfl) (pm_isTravel back) ?_
  rw [if_neg a7.1, if_neg a7.2]
  refine pw_if_ne (tgt := 81) d_TK_answer_68 (by decide) (fun _ => ?_) (fun h => absurd h (by decide))
  refine pw_aload d_TK_answer_81 rfl ?_
  refine pw_getL d_TK_answer_83 f_TK_106 rfl rfl ?_
  refine pw_lload d_TK_answer_86 rfl ?_
  refine pw_ladd d_TK_answer_88 ?_
  refine pw_lload d_TK_answer_89 rfl ?_
  refine pw_ladd d_TK_answer_91 ?_
  refine pw_lstore d_TK_answer_92 (by decide) ?_
  dsimp only [stL, kil, isL, cat]
  refine pw_aload_n d_TK_answer_94 rfl ?_
  refine pw_getR d_TK_answer_95 f_TK_14 rfl rfl (rfO hM rfl) ?_
  refine pw_iconst 0 d_TK_answer_98 (by decide) ?_
  refine pw_iconst 4 d_TK_answer_99 (by decide) ?_
  refine pw_iconst 4 d_TK_answer_100 (by decide) ?_
  refine c_TK_answer_101 rfl (Nat.le_of_ble_eq_true rfl) (pm_blank_t hM _ _ _) ?_
  refine pw_aload_n d_TK_answer_104 rfl ?_
  refine pw_getR d_TK_answer_105 f_TK_14 rfl rfl (rfO hM rfl) ?_
  refine pw_getR d_TK_answer_108 f_TK_68 rfl rfl (rfO hM rfl) ?_
  refine pw_iconst 1 d_TK_answer_111 (by decide) ?_
  refine pw_iload_n d_TK_answer_112 rfl ?_
  refine pw_iastore d_TK_answer_113 rfl (vp_in_nI (n := 1) (by decide) (by decide)) ?_
  refine pw_aload_n d_TK_answer_114 rfl ?_
  refine pw_getR d_TK_answer_115 f_TK_14 rfl rfl (rfO hM rfl) ?_
  refine pw_iconst 4 d_TK_answer_118 (by decide) ?_
  refine pw_iconst 4 d_TK_answer_119 (by decide) ?_
  refine pw_iload_n d_TK_answer_120 rfl ?_
  refine pw_i2l d_TK_answer_121 ?_
  refine c_TK_answer_122 rfl (Nat.le_of_ble_eq_true rfl) (pm_write_t (M := sI (blnk_t M (64 * 0 + 8 * 4 + 4)) (0, 2) 1 lv) hM 4 4 _ (by decide) (by decide)) ?_
  refine pw_aload_n d_TK_answer_125 rfl ?_
  refine pw_getR d_TK_answer_126 f_TK_14 rfl rfl (rfO hM rfl) ?_
  refine pw_bipush (8) d_TK_answer_129 (by decide) ?_
  refine pw_iconst 4 d_TK_answer_131 (by decide) ?_
  refine pw_iload d_TK_answer_132 rfl ?_
  refine pw_i2l d_TK_answer_134 ?_
  refine c_TK_answer_135 rfl (Nat.le_of_ble_eq_true rfl) (pm_write_t (M := wrB byU (sI (blnk_t M (64 * 0 + 8 * 4 + 4)) (0, 2) 1 lv) (0, 2) 4 4 dl.toInt64 4) hM 8 4 _ (by decide) (by decide)) ?_
  refine pw_aload_n d_TK_answer_138 rfl ?_
  refine pw_getR d_TK_answer_139 f_TK_14 rfl rfl (rfO hM rfl) ?_
  refine pw_bipush (24) d_TK_answer_142 (by decide) ?_
  refine pw_bipush (8) d_TK_answer_144 (by decide) ?_
  refine pw_aload d_TK_answer_146 rfl ?_
  refine pw_getL d_TK_answer_148 f_TK_106 rfl rfl ?_
  refine c_TK_answer_151 rfl (Nat.le_of_ble_eq_true rfl) (pm_write_t (M := wrB byU (wrB byU (sI (blnk_t M (64 * 0 + 8 * 4 + 4)) (0, 2) 1 lv) (0, 2) 4 4 dl.toInt64 4) (0, 2) 8 4 dp.toInt64 4) hM 24 8 _ (by decide) (by decide)) ?_
  refine pw_aload_n d_TK_answer_154 rfl ?_
  refine pw_getR d_TK_answer_155 f_TK_14 rfl rfl (rfO hM rfl) ?_
  refine pw_bipush (32) d_TK_answer_158 (by decide) ?_
  refine pw_bipush (8) d_TK_answer_160 (by decide) ?_
  refine pw_lload d_TK_answer_162 rfl ?_
  refine c_TK_answer_164 rfl (Nat.le_of_ble_eq_true rfl) (pm_write_t (M := wrB byU (wrB byU (wrB byU (sI (blnk_t M (64 * 0 + 8 * 4 + 4)) (0, 2) 1 lv) (0, 2) 4 4 dl.toInt64 4) (0, 2) 8 4 dp.toInt64 4) (0, 2) 24 8 (M.2.1 (p + 1, 0) 0) 8) hM 32 8 _ (by decide) (by decide)) ?_
  refine pw_aload_n d_TK_answer_167 rfl ?_
  refine pw_getR d_TK_answer_168 f_TK_14 rfl rfl (rfO hM rfl) ?_
  refine pw_bipush (40) d_TK_answer_171 (by decide) ?_
  refine pw_bipush (8) d_TK_answer_173 (by decide) ?_
  refine pw_lload d_TK_answer_175 rfl ?_
  refine pw_lload d_TK_answer_177 rfl ?_
  refine pw_ladd d_TK_answer_179 ?_
  refine c_TK_answer_180 rfl (Nat.le_of_ble_eq_true rfl) (pm_write_t (M := wrB byU (wrB byU (wrB byU (wrB byU (sI (blnk_t M (64 * 0 + 8 * 4 + 4)) (0, 2) 1 lv) (0, 2) 4 4 dl.toInt64 4) (0, 2) 8 4 dp.toInt64 4) (0, 2) 24 8 (M.2.1 (p + 1, 0) 0) 8) (0, 2) 32 8 (M.2.1 (p + 1, 0) 0 + off + way) 8) hM 40 8 _ (by decide) (by decide)) ?_
  refine pw_aload_n d_TK_answer_183 rfl ?_
  refine pw_getR d_TK_answer_184 f_TK_24 rfl rfl (rfO hM rfl) ?_
  refine pw_dup d_TK_answer_187 rfl ?_
  refine pw_getL d_TK_answer_188 f_TK_80 rfl rfl ?_
  refine pw_lload d_TK_answer_191 rfl ?_
  refine pw_lload d_TK_answer_193 rfl ?_
  refine pw_ladd d_TK_answer_195 ?_
  refine pw_lload d_TK_answer_196 rfl ?_
  refine pw_ladd d_TK_answer_198 ?_
  refine pw_ladd d_TK_answer_199 ?_
  refine pw_putL d_TK_answer_200 f_TK_80 rfl rfl rfl ?_
  refine pw_aload_n d_TK_answer_203 rfl ?_
  refine pw_getR d_TK_answer_204 f_TK_24 rfl rfl (rfO hM rfl) ?_
  refine pw_getL d_TK_answer_207 f_TK_80 rfl rfl ?_
  refine pw_lreturn d_TK_answer_210 rfl ?_ ?_
  · exact congrArg rL (by simp [sL, wrB, sI, blnk_t])
  · rfl
end AN1
