/-! request, serve, answer of the class -/
section RQ1
variable {G : GG} {l : Launch} {M : Mem}
def sentOf (x : Int64) : Int64 := if x = 0 then 1 else x
def askM (M : Mem) (p : Nat) (x : Int64) : Mem := sL (sI M (p + 1, 0) 2 (M.1 (p + 1, 0) 2 <<< ((1 : Int32) &&& 31) &&& 255)) (p + 1, 0) 0 (sentOf x)
theorem pm_ask (p : Nat) (x : Int64) : PM G l m_PE_ask [vR (some (p + 1, 0)), vL x] M rV (askM M p x) 0 0 := by
  refine pm_in [some (vR (some (p + 1, 0))), some (vL x), none] rfl ?_
  refine pw_aload_n d_PE_ask_0 rfl ?_
  refine pw_aload_n d_PE_ask_1 rfl ?_
  refine pw_getI d_PE_ask_2 f_PE_32 rfl rfl ?_
  refine pw_iconst 1 d_PE_ask_5 (by decide) ?_
  refine pw_ishl d_PE_ask_6 ?_
  refine pw_sipush (255) d_PE_ask_7 (by decide) ?_
  refine pw_iand d_PE_ask_10 ?_
  refine pw_putI d_PE_ask_11 f_PE_32 rfl rfl rfl ?_
  refine pw_aload_n d_PE_ask_14 rfl ?_
  refine pw_lload_n d_PE_ask_15 rfl ?_
  refine pw_lconst 0 d_PE_ask_16 (by decide) ?_
  refine pw_lcmp d_PE_ask_17 ?_
  refine pw_if_ne (tgt := 25) d_PE_ask_18 (by decide) (fun h18 => ?_) (fun h18 => ?_)
  · refine pw_lload_n d_PE_ask_25 rfl ?_
    refine pw_putL d_PE_ask_26 f_PE_35 rfl rfl rfl ?_
    refine pw_return d_PE_ask_29 rfl ?_ ?_
    · rfl
    · rw [lg_eq] at h18; unfold askM sentOf; first | rw [if_neg h18] | rw [if_pos h18]
  · refine pw_lconst 1 d_PE_ask_21 (by decide) ?_
    refine pw_goto (tgt := 26) d_PE_ask_22 (by decide) ?_
    refine pw_putL d_PE_ask_26 f_PE_35 rfl rfl rfl ?_
    refine pw_return d_PE_ask_29 rfl ?_ ?_
    · rfl
    · rw [lg_eq] at h18; unfold askM sentOf; first | rw [if_neg h18] | rw [if_pos h18]
theorem askM_sent (p : Nat) (x : Int64) : (askM M p x).2.1 (p + 1, 0) 0 = sentOf x := by simp [askM, sL]
/-- OUT as a request -/
def rqM (M : Mem) (s : Int64) : Mem := wrB byU (sI (sI (blnk_o M (64 * 0 + 8 * 4 + 3)) (0, 4) 2 (M.1 (0, 5) 5)) (0, 4) 3 238) (0, 4) 40 8 s 8
theorem pm_request (hM : M.2.2.1 = rf) (p : Nat) (hp : p < 8) : PM G l m_TK_request [vR (some TKK), vI (nI p)] M (rL (sentOf (M.2.1 (0, 5) 0))) (rqM (askM M p (M.2.1 (0, 5) 0)) (sentOf (M.2.1 (0, 5) 0))) 0 0 := by
  refine pm_in [some (vR (some TKK)), some (vI (nI p)), none] rfl ?_
  refine pw_aload_n d_TK_request_0 rfl ?_
  refine pw_iload_n d_TK_request_1 rfl ?_
  refine c_TK_request_2 rfl (Nat.le_of_ble_eq_true rfl) (pm_known hM p hp) ?_
  refine pw_astore_n d_TK_request_5 (by decide) ?_
  dsimp only [stL, kil, isL, cat]
  refine pw_aload_n d_TK_request_6 rfl ?_
  refine pw_aload_n d_TK_request_7 rfl ?_
  refine pw_getR d_TK_request_8 f_TK_24 rfl rfl (rfO hM rfl) ?_
  refine pw_getL d_TK_request_11 f_TK_80 rfl rfl ?_
  refine c_TK_request_14 rfl (Nat.le_of_ble_eq_true rfl) (pm_ask p _) ?_
  refine pw_aload_n d_TK_request_17 rfl ?_
  refine pw_getR d_TK_request_18 f_TK_18 rfl rfl (rfO hM rfl) ?_
  refine pw_iconst 0 d_TK_request_21 (by decide) ?_
  refine pw_iconst 4 d_TK_request_22 (by decide) ?_
  refine pw_iconst 3 d_TK_request_23 (by decide) ?_
  refine c_TK_request_24 rfl (Nat.le_of_ble_eq_true rfl) (pm_blank_o (M := askM M p (M.2.1 (0, 5) 0)) hM _ _ _) ?_
  refine pw_aload_n d_TK_request_27 rfl ?_
  refine pw_getR d_TK_request_28 f_TK_18 rfl rfl (rfO hM rfl) ?_
  refine pw_getR d_TK_request_31 f_TK_68 rfl rfl (rfO hM rfl) ?_
  refine pw_iconst 2 d_TK_request_34 (by decide) ?_
  refine pw_aload_n d_TK_request_35 rfl ?_
  refine pw_getR d_TK_request_36 f_TK_24 rfl rfl (rfO hM rfl) ?_
  refine pw_getI d_TK_request_39 f_TK_103 rfl rfl ?_
  rw [show (blnk_o (askM M p (M.2.1 (0, 5) 0)) (64 * 0 + 8 * 4 + 3)).1 (0, 5) 5 = (askM M p (M.2.1 (0, 5) 0)).1 (0, 5) 5 from by simp [blnk_o]]
  refine pw_iastore d_TK_request_42 rfl (vp_in_nI (n := 2) (by decide) (by decide)) ?_
  refine pw_aload_n d_TK_request_43 rfl ?_
  refine pw_getR d_TK_request_44 f_TK_18 rfl rfl (rfO hM rfl) ?_
  refine pw_getR d_TK_request_47 f_TK_68 rfl rfl (rfO hM rfl) ?_
  refine pw_iconst 3 d_TK_request_50 (by decide) ?_
  refine pw_sipush (238) d_TK_request_51 (by decide) ?_
  refine pw_iastore d_TK_request_54 rfl (vp_in_nI (n := 3) (by decide) (by decide)) ?_
  refine pw_aload_n d_TK_request_55 rfl ?_
  refine pw_getR d_TK_request_56 f_TK_18 rfl rfl (rfO hM rfl) ?_
  refine pw_bipush (40) d_TK_request_59 (by decide) ?_
  refine pw_bipush (8) d_TK_request_61 (by decide) ?_
  refine pw_aload_n d_TK_request_63 rfl ?_
  refine pw_getL d_TK_request_64 f_TK_106 rfl rfl ?_
  rw [show (sI (sI (blnk_o (askM M p (M.2.1 (0, 5) 0)) (64 * 0 + 8 * 4 + 3)) (0, 4) (2 : Int32).toNatClampNeg ((askM M p (M.2.1 (0, 5) 0)).1 (0, 5) 5)) (0, 4) (3 : Int32).toNatClampNeg 238).2.1 (p + 1, 0) 0 = sentOf (M.2.1 (0, 5) 0) from askM_sent p _]
  refine c_TK_request_67 rfl (Nat.le_of_ble_eq_true rfl) (pm_write_o (M := sI (sI (blnk_o (askM M p (M.2.1 (0, 5) 0)) (64 * 0 + 8 * 4 + 3)) (0, 4) (2 : Int32).toNatClampNeg ((askM M p (M.2.1 (0, 5) 0)).1 (0, 5) 5)) (0, 4) (3 : Int32).toNatClampNeg 238) hM 40 8 _ (by decide) (by decide)) ?_
  refine pw_aload_n d_TK_request_70 rfl ?_
  refine pw_getL d_TK_request_71 f_TK_106 rfl rfl ?_
  refine pw_lreturn d_TK_request_74 rfl ?_ ?_
  · exact congrArg rL (askM_sent p _).symm
  · rfl
theorem pm_request_x (hM : M.2.2.1 = rf) (p : Int32) (hp : p < 0 ∨ 8 ≤ p) : PM G l m_TK_request [vR (some TKK), vI p] M (tE 2) M 1 6 := by
  refine pm_in [some (vR (some TKK)), some (vI p), none] rfl ?_
  refine pw_aload_n d_TK_request_0 rfl ?_
  refine pw_iload_n d_TK_request_1 rfl ?_
  exact cX_TK_request_2 rfl (Nat.le_of_ble_eq_true rfl) (pm_known_x hM p hp) rfl rfl
/-- OUT as a reply -/
def svM (M : Mem) (lp st : Int32) : Mem := wrB byU (wrB byU (wrB byU (sI (sI (sI (blnk_o M (64 * lp + 8 * (M.1 (0, 2) 0 >>> ((3 : Int32) &&& 31) &&& 7) + 4)) (0, 4) 1 st) (0, 4) 2 (M.1 (0, 2) 2)) (0, 4) 3 238) (0, 4) 24 8 (rdN (M.1 (0, 2)) 40 8) 8) (0, 4) 32 8 (M.2.1 (0, 5) 0) 8) (0, 4) 40 8 (M.2.1 (0, 5) 0) 8
def svOK (len b0 : Int32) : Prop := len = 48 ∧ (1 ≤ (b0 >>> ((3 : Int32) &&& 31) &&& 7) ∧ (b0 >>> ((3 : Int32) &&& 31) &&& 7) ≤ 4) ∧ (b0 &&& 7) = 3
theorem pm_serve_n (hM : M.2.2.1 = rf) (h : ¬ svOK (M.1 (0, 1) 1) (M.1 (0, 2) 0)) : PM G l m_TK_serve [vR (some TKK)] M (rI 0) M 0 0 := by
  refine pm_in [some (vR (some TKK)), none] rfl ?_
  have key : PW G l m_TK_serve 33 [some (vR (some TKK)), none] [] M (rI 0) M 0 0 := by
    refine pw_iconst 0 d_TK_serve_33 (by decide) ?_
    refine pw_zreturn d_TK_serve_34 rfl ?_ ?_ ?_
    · exact Or.inl rfl
    · rfl
    · rfl
  refine pw_aload_n d_TK_serve_0 rfl ?_
  refine pw_getR d_TK_serve_1 f_TK_14 rfl rfl (rfO hM rfl) ?_
  refine pw_getI d_TK_serve_4 f_TK_49 rfl rfl ?_
  refine pw_bipush (48) d_TK_serve_7 (by decide) ?_
  refine pw_icmp_ne (tgt := 33) d_TK_serve_9 (by decide) (fun h9 => ?_) (fun h9 => ?_)
  · exact key
  · refine pw_aload_n d_TK_serve_12 rfl ?_
    refine pw_getR d_TK_serve_13 f_TK_14 rfl rfl (rfO hM rfl) ?_
    refine c_TK_serve_16 rfl (Nat.le_of_ble_eq_true rfl) (pm_isOfKnownVersion hM) ?_
    by_cases hv : 1 ≤ (M.1 (0, 2) 0 >>> ((3 : Int32) &&& 31) &&& 7) ∧ (M.1 (0, 2) 0 >>> ((3 : Int32) &&& 31) &&& 7) ≤ 4
    · rw [if_pos hv]
      refine pw_if_eq (tgt := 33) d_TK_serve_19 (by decide) (fun h => absurd h (by decide)) (fun _ => ?_)
      refine pw_aload_n d_TK_serve_22 rfl ?_
      refine pw_getR d_TK_serve_23 f_TK_14 rfl rfl (rfO hM rfl) ?_
      refine c_TK_serve_26 rfl (Nat.le_of_ble_eq_true rfl) (pm_mode hM) ?_
      refine pw_iconst 3 d_TK_serve_29 (by decide) ?_
      refine pw_icmp_eq (tgt := 35) d_TK_serve_30 (by decide) (fun h30 => ?_) (fun h30 => ?_)
      · exact absurd ⟨h9, hv, h30⟩ h
      · exact key
    · rw [if_neg hv]
      refine pw_if_eq (tgt := 33) d_TK_serve_19 (by decide) (fun _ => ?_) (fun h => absurd (by decide) h)
      exact key
theorem lp_serve (hM : M.2.2.1 = rf) (hb : ∀ j, byteOK (M.1 (0, 2) j)) (u lp st : Int32) (hu : (u = 0 ∧ lp = 0 ∧ st = M.1 (0, 7) 7) ∨ (u = 1 ∧ lp = 3 ∧ st = 0)) : PW G l m_TK_serve 62 [some (vR (some TKK)), none] [vI u] M (rI 1) (svM M lp st) 0 0 := by
  have fin : PW G l m_TK_serve 110 [some (vR (some TKK)), some (vI u)] [vI st, vI 1, vR (some (0, 4))] (blnk_o M (64 * lp + 8 * (M.1 (0, 2) 0 >>> ((3 : Int32) &&& 31) &&& 7) + 4)) (rI 1) (svM M lp st) 0 0 := by
    refine pw_iastore d_TK_serve_110 rfl (vp_in_nI (n := 1) (by decide) (by decide)) ?_
    refine pw_aload_n d_TK_serve_111 rfl ?_
    refine pw_getR d_TK_serve_112 f_TK_18 rfl rfl (rfO hM rfl) ?_
    refine pw_getR d_TK_serve_115 f_TK_68 rfl rfl (rfO hM rfl) ?_
    refine pw_iconst 2 d_TK_serve_118 (by decide) ?_
    refine pw_aload_n d_TK_serve_119 rfl ?_
    refine pw_getR d_TK_serve_120 f_TK_14 rfl rfl (rfO hM rfl) ?_
    refine pw_getR d_TK_serve_123 f_TK_68 rfl rfl (rfO hM rfl) ?_
    refine pw_iconst 2 d_TK_serve_126 (by decide) ?_
    refine pw_iaload d_TK_serve_127 rfl (vp_in_nI (n := 2) (by decide) (by decide)) ?_
    rw [show (sI (blnk_o M (64 * lp + 8 * (M.1 (0, 2) 0 >>> ((3 : Int32) &&& 31) &&& 7) + 4)) (0, 4) (1 : Int32).toNatClampNeg st).1 (0, 2) (2 : Int32).toNatClampNeg = M.1 (0, 2) 2 from by simp [sI, blnk_o, show (2 : Int32).toNatClampNeg = 2 from rfl]]
    refine pw_iastore d_TK_serve_128 rfl (vp_in_nI (n := 2) (by decide) (by decide)) ?_
    refine pw_aload_n d_TK_serve_129 rfl ?_
    refine pw_getR d_TK_serve_130 f_TK_18 rfl rfl (rfO hM rfl) ?_
    refine pw_getR d_TK_serve_133 f_TK_68 rfl rfl (rfO hM rfl) ?_
    refine pw_iconst 3 d_TK_serve_136 (by decide) ?_
    refine pw_sipush (238) d_TK_serve_137 (by decide) ?_
    refine pw_iastore d_TK_serve_140 rfl (vp_in_nI (n := 3) (by decide) (by decide)) ?_
    refine pw_aload_n d_TK_serve_141 rfl ?_
    refine pw_getR d_TK_serve_142 f_TK_18 rfl rfl (rfO hM rfl) ?_
    refine pw_bipush (24) d_TK_serve_145 (by decide) ?_
    refine pw_bipush (8) d_TK_serve_147 (by decide) ?_
    refine pw_aload_n d_TK_serve_149 rfl ?_
    refine pw_getR d_TK_serve_150 f_TK_14 rfl rfl (rfO hM rfl) ?_
    refine pw_bipush (40) d_TK_serve_153 (by decide) ?_
    refine pw_bipush (8) d_TK_serve_155 (by decide) ?_
    have e1 : (sI (sI (sI (blnk_o M (64 * lp + 8 * (M.1 (0, 2) 0 >>> ((3 : Int32) &&& 31) &&& 7) + 4)) (0, 4) (1 : Int32).toNatClampNeg st) (0, 4) (2 : Int32).toNatClampNeg (M.1 (0, 2) 2)) (0, 4) (3 : Int32).toNatClampNeg 238).1 (0, 2) = M.1 (0, 2) := by
      funext j; simp [sI, blnk_o]
    refine c_TK_serve_157 rfl (Nat.le_of_ble_eq_true rfl) (pm_read (M := sI (sI (sI (blnk_o M (64 * lp + 8 * (M.1 (0, 2) 0 >>> ((3 : Int32) &&& 31) &&& 7) + 4)) (0, 4) (1 : Int32).toNatClampNeg st) (0, 4) (2 : Int32).toNatClampNeg (M.1 (0, 2) 2)) (0, 4) (3 : Int32).toNatClampNeg 238) hM (fun j => by rw [e1]; exact hb j) 40 8 (by decide)) ?_
    rw [e1]
    refine c_TK_serve_160 rfl (Nat.le_of_ble_eq_true rfl) (pm_write_o (M := sI (sI (sI (blnk_o M (64 * lp + 8 * (M.1 (0, 2) 0 >>> ((3 : Int32) &&& 31) &&& 7) + 4)) (0, 4) (1 : Int32).toNatClampNeg st) (0, 4) (2 : Int32).toNatClampNeg (M.1 (0, 2) 2)) (0, 4) (3 : Int32).toNatClampNeg 238) hM 24 8 _ (by decide) (by decide)) ?_
    refine pw_aload_n d_TK_serve_163 rfl ?_
    refine pw_getR d_TK_serve_164 f_TK_18 rfl rfl (rfO hM rfl) ?_
    refine pw_bipush (32) d_TK_serve_167 (by decide) ?_
    refine pw_bipush (8) d_TK_serve_169 (by decide) ?_
    refine pw_aload_n d_TK_serve_171 rfl ?_
    refine pw_getR d_TK_serve_172 f_TK_24 rfl rfl (rfO hM rfl) ?_
    refine pw_getL d_TK_serve_175 f_TK_80 rfl rfl ?_
    refine c_TK_serve_178 rfl (Nat.le_of_ble_eq_true rfl) (pm_write_o (M := wrB byU (sI (sI (sI (blnk_o M (64 * lp + 8 * (M.1 (0, 2) 0 >>> ((3 : Int32) &&& 31) &&& 7) + 4)) (0, 4) (1 : Int32).toNatClampNeg st) (0, 4) (2 : Int32).toNatClampNeg (M.1 (0, 2) 2)) (0, 4) (3 : Int32).toNatClampNeg 238) (0, 4) 24 8 (rdN (M.1 (0, 2)) 40 8) 8) hM 32 8 (M.2.1 (0, 5) 0) (by decide) (by decide)) ?_
    refine pw_aload_n d_TK_serve_181 rfl ?_
    refine pw_getR d_TK_serve_182 f_TK_18 rfl rfl (rfO hM rfl) ?_
    refine pw_bipush (40) d_TK_serve_185 (by decide) ?_
    refine pw_bipush (8) d_TK_serve_187 (by decide) ?_
    refine pw_aload_n d_TK_serve_189 rfl ?_
    refine pw_getR d_TK_serve_190 f_TK_24 rfl rfl (rfO hM rfl) ?_
    refine pw_getL d_TK_serve_193 f_TK_80 rfl rfl ?_
    refine c_TK_serve_196 rfl (Nat.le_of_ble_eq_true rfl) (pm_write_o (M := wrB byU (wrB byU (sI (sI (sI (blnk_o M (64 * lp + 8 * (M.1 (0, 2) 0 >>> ((3 : Int32) &&& 31) &&& 7) + 4)) (0, 4) (1 : Int32).toNatClampNeg st) (0, 4) (2 : Int32).toNatClampNeg (M.1 (0, 2) 2)) (0, 4) (3 : Int32).toNatClampNeg 238) (0, 4) 24 8 (rdN (M.1 (0, 2)) 40 8) 8) (0, 4) 32 8 (M.2.1 (0, 5) 0) 8) hM 40 8 (M.2.1 (0, 5) 0) (by decide) (by decide)) ?_
    refine pw_iconst 1 d_TK_serve_199 (by decide) ?_
    refine pw_zreturn d_TK_serve_200 rfl ?_ ?_ ?_
    · exact Or.inr rfl
    · rfl
    · rfl
  have mid : PW G l m_TK_serve 76 [some (vR (some TKK)), some (vI u)] [vI lp, vR (some (0, 3))] M (rI 1) (svM M lp st) 0 0 := by
    refine pw_aload_n d_TK_serve_76 rfl ?_
    refine pw_getR d_TK_serve_77 f_TK_14 rfl rfl (rfO hM rfl) ?_
    refine c_TK_serve_80 rfl (Nat.le_of_ble_eq_true rfl) (pm_version hM) ?_
    refine pw_iconst 4 d_TK_serve_83 (by decide) ?_
    refine c_TK_serve_84 rfl (Nat.le_of_ble_eq_true rfl) (pm_blank_o hM _ _ _) ?_
    refine pw_aload_n d_TK_serve_87 rfl ?_
    refine pw_getR d_TK_serve_88 f_TK_18 rfl rfl (rfO hM rfl) ?_
    refine pw_getR d_TK_serve_91 f_TK_68 rfl rfl (rfO hM rfl) ?_
    refine pw_iconst 1 d_TK_serve_94 (by decide) ?_
    refine pw_iload_n d_TK_serve_95 rfl ?_
    rcases hu with ⟨rfl, rfl, rfl⟩ | ⟨rfl, rfl, rfl⟩
    · refine pw_if_eq (tgt := 103) d_TK_serve_96 (by decide) (fun _ => ?_) (fun h => absurd (by decide) h)
      refine pw_aload_n d_TK_serve_103 rfl ?_
      refine pw_getR d_TK_serve_104 f_TK_38 rfl rfl (rfO hM rfl) ?_
      refine pw_getI d_TK_serve_107 f_TK_149 rfl rfl ?_
      rw [show (blnk_o M (64 * 0 + 8 * (M.1 (0, 2) 0 >>> ((3 : Int32) &&& 31) &&& 7) + 4)).1 (0, 7) 7 = M.1 (0, 7) 7 from by simp [blnk_o]]
      exact fin
    · refine pw_if_eq (tgt := 103) d_TK_serve_96 (by decide) (fun h => absurd h (by decide)) (fun _ => ?_)
      refine pw_iconst 0 d_TK_serve_99 (by decide) ?_
      refine pw_goto (tgt := 110) d_TK_serve_100 (by decide) ?_
      exact fin
  refine pw_istore_n d_TK_serve_62 (by decide) ?_
  dsimp only [stL, kil, isL, cat]
  refine pw_aload_n d_TK_serve_63 rfl ?_
  refine pw_getR d_TK_serve_64 f_TK_18 rfl rfl (rfO hM rfl) ?_
  refine pw_iload_n d_TK_serve_67 rfl ?_
  rcases hu with ⟨rfl, rfl, rfl⟩ | ⟨rfl, rfl, rfl⟩
  · refine pw_if_eq (tgt := 75) d_TK_serve_68 (by decide) (fun _ => ?_) (fun h => absurd (by decide) h)
    refine pw_iconst 0 d_TK_serve_75 (by decide) ?_
    exact mid
  · refine pw_if_eq (tgt := 75) d_TK_serve_68 (by decide) (fun h => absurd h (by decide)) (fun _ => ?_)
    refine pw_iconst 3 d_TK_serve_71 (by decide) ?_
    refine pw_goto (tgt := 76) d_TK_serve_72 (by decide) ?_
    exact mid
theorem pm_serve_y (hM : M.2.2.1 = rf) (hb : ∀ j, byteOK (M.1 (0, 2) j)) (h : svOK (M.1 (0, 1) 1) (M.1 (0, 2) 0)) : PM G l m_TK_serve [vR (some TKK)] M (rI 1) (if M.1 (0, 7) 7 = 0 then svM M 3 0 else if M.1 (0, 7) 7 ≤ 15 then svM M 0 (M.1 (0, 7) 7) else svM M 3 0) 0 0 := by
  refine pm_in [some (vR (some TKK)), none] rfl ?_
  obtain ⟨h1, h2, h3⟩ := h
  refine pw_aload_n d_TK_serve_0 rfl ?_
  refine pw_getR d_TK_serve_1 f_TK_14 rfl rfl (rfO hM rfl) ?_
  refine pw_getI d_TK_serve_4 f_TK_49 rfl rfl ?_
  refine pw_bipush (48) d_TK_serve_7 (by decide) ?_
  refine pw_icmp_ne (tgt := 33) d_TK_serve_9 (by decide) (fun h9 => ?_) (fun h9 => ?_)
  · exact absurd h1 h9
  · refine pw_aload_n d_TK_serve_12 rfl ?_
    refine pw_getR d_TK_serve_13 f_TK_14 rfl rfl (rfO hM rfl) ?_
    refine c_TK_serve_16 rfl (Nat.le_of_ble_eq_true rfl) (pm_isOfKnownVersion hM) ?_
    rw [if_pos h2]
    refine pw_if_eq (tgt := 33) d_TK_serve_19 (by decide) (fun h => absurd h (by decide)) (fun _ => ?_)
    refine pw_aload_n d_TK_serve_22 rfl ?_
    refine pw_getR d_TK_serve_23 f_TK_14 rfl rfl (rfO hM rfl) ?_
    refine c_TK_serve_26 rfl (Nat.le_of_ble_eq_true rfl) (pm_mode hM) ?_
    refine pw_iconst 3 d_TK_serve_29 (by decide) ?_
    refine pw_icmp_eq (tgt := 35) d_TK_serve_30 (by decide) (fun h30 => ?_) (fun h30 => ?_)
    · refine pw_aload_n d_TK_serve_35 rfl ?_
      refine pw_getR d_TK_serve_36 f_TK_38 rfl rfl (rfO hM rfl) ?_
      refine pw_getI d_TK_serve_39 f_TK_149 rfl rfl ?_
      refine pw_if_eq (tgt := 57) d_TK_serve_42 (by decide) (fun h42 => ?_) (fun h42 => ?_)
      · refine pw_iconst 1 d_TK_serve_57 (by decide) ?_
        refine pw_goto (tgt := 62) d_TK_serve_58 (by decide) ?_
        rw [if_pos h42]
        exact lp_serve hM hb 1 3 0 (Or.inr ⟨rfl, rfl, rfl⟩)
      · rw [if_neg h42]
        refine pw_aload_n d_TK_serve_45 rfl ?_
        refine pw_getR d_TK_serve_46 f_TK_38 rfl rfl (rfO hM rfl) ?_
        refine pw_getI d_TK_serve_49 f_TK_149 rfl rfl ?_
        refine pw_bipush (15) d_TK_serve_52 (by decide) ?_
        refine pw_icmp_le (tgt := 61) d_TK_serve_54 (by decide) (fun h54 => ?_) (fun h54 => ?_)
        · refine pw_iconst 0 d_TK_serve_61 (by decide) ?_
          rw [if_pos h54]
          exact lp_serve hM hb 0 0 _ (Or.inl ⟨rfl, rfl, rfl⟩)
        · refine pw_iconst 1 d_TK_serve_57 (by decide) ?_
          refine pw_goto (tgt := 62) d_TK_serve_58 (by decide) ?_
          rw [if_neg h54]
          exact lp_serve hM hb 1 3 0 (Or.inr ⟨rfl, rfl, rfl⟩)
    · exact absurd h3 h30
end RQ1
