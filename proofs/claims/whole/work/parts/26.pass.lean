/-! pass, on both sides -/
/-- what a second takes of REST -/
def gG (r : Int64) : Int64 := if r / 64 = 0 then r else r / 64
def rsN (r : Int64) : Nat → Int64
  | 0 => r
  | n + 1 => rsN r n - gG (rsN r n)
def sgN (r : Int64) : Nat → Int64
  | 0 => 0
  | n + 1 => sgN r n + gG (rsN r n)
theorem gG_0 : gG 0 = 0 := by decide
theorem i64_sub0 (x : Int64) : x - 0 = x := by apply Int64.toBitVec_inj.mp; rw [Int64.toBitVec_sub]; exact BitVec.sub_zero _
theorem i64_add0 (x : Int64) : x + 0 = x := by apply Int64.toBitVec_inj.mp; rw [Int64.toBitVec_add]; exact BitVec.add_zero _
theorem i64_addA (x y z : Int64) : x + y + z = x + (y + z) := by apply Int64.toBitVec_inj.mp; simp only [Int64.toBitVec_add]; exact BitVec.add_assoc _ _ _
theorem i64_addC (x y : Int64) : x + y = y + x := by apply Int64.toBitVec_inj.mp; simp only [Int64.toBitVec_add]; exact BitVec.add_comm _ _
theorem rs_zero {r : Int64} {i : Nat} (h : rsN r i = 0) : ∀ m, rsN r (i + m) = 0 ∧ sgN r (i + m) = sgN r i := by
  intro m
  induction m with
  | zero => exact ⟨h, rfl⟩
  | succ m ih =>
    obtain ⟨h1, h2⟩ := ih
    constructor
    · show rsN r (i + m) - gG (rsN r (i + m)) = 0
      rw [h1, gG_0]; rfl
    · show sgN r (i + m) + gG (rsN r (i + m)) = _
      rw [h1, gG_0, h2, i64_add0]
/-- two longs of an object -/
def L2 (M : Mem) (k : KK) (j1 j2 : Nat) (a b : Int64) : Mem := (M.1, fun q i => if q = k ∧ i = j1 then a else if q = k ∧ i = j2 then b else M.2.1 q i, M.2.2)
theorem L2_self {M : Mem} {k : KK} {j1 j2 : Nat} : L2 M k j1 j2 (M.2.1 k j1) (M.2.1 k j2) = M := by
  unfold L2
  refine Prod.ext rfl (Prod.ext ?_ rfl)
  funext q i
  show ite _ _ (ite _ _ _) = _
  by_cases h : q = k ∧ i = j1
  · rw [if_pos h, h.1, h.2]
  · rw [if_neg h]
    by_cases h2 : q = k ∧ i = j2
    · rw [if_pos h2, h2.1, h2.2]
    · rw [if_neg h2]
theorem L2_s {M : Mem} {k : KK} {j1 j2 : Nat} {a b c d : Int64} : sL (sL (L2 M k j1 j2 a b) k j1 c) k j2 d = if j1 = j2 then sL (sL (L2 M k j1 j2 a b) k j1 c) k j2 d else L2 M k j1 j2 c d := by
  split
  · rfl
  · rename_i hne
    unfold L2 sL
    refine Prod.ext rfl (Prod.ext ?_ rfl)
    funext q i
    show ite _ _ (ite _ _ (ite _ _ (ite _ _ _))) = ite _ _ (ite _ _ _)
    by_cases h : q = k ∧ i = j1
    · rw [if_neg (fun c => hne (h.2.symm.trans c.2)), if_pos h, if_pos h]
    · rw [if_neg h, if_neg h, if_neg h]
      by_cases h2 : q = k ∧ i = j2
      · rw [if_pos h2, if_pos h2]
      · rw [if_neg h2, if_neg h2, if_neg h2]
section PS1
variable {G : GG} {l : Launch} {M : Mem}
abbrev TPK : KK := (0, 5)
theorem lp_run (n : Nat) (hn : n ≤ 4096) (pl : Int64) (o : PO) (M' : Mem) (mc ms : Nat) (b5 b7 : Option PV)
    (hend : ∀ b4 b5 b7 : Option PV, PW G l m_TP_run 89 [some (vR (some TPK)), some (vI (nI n)), some (vL pl), none, b4, b5, none, b7, none] [] (L2 M TPK 0 4 (M.2.1 TPK 0 + sgN (M.2.1 TPK 4) n) (rsN (M.2.1 TPK 4) n)) o M' mc ms) :
    ∀ (m i : Nat), i + m = n → ∀ b5 b7 : Option PV, PW G l m_TP_run 18 [some (vR (some TPK)), some (vI (nI n)), some (vL pl), none, some (vI (nI i)), b5, none, b7, none] [] (L2 M TPK 0 4 (M.2.1 TPK 0 + sgN (M.2.1 TPK 4) i) (rsN (M.2.1 TPK 4) i)) o M' mc ms := by
  intro m
  have r4 : ∀ a b, (L2 M TPK 0 4 a b).2.1 TPK 4 = b := fun a b => by simp [L2]
  have r0 : ∀ a b, (L2 M TPK 0 4 a b).2.1 TPK 0 = a := fun a b => by simp [L2]
  induction m with
  | zero =>
    intro i hi b5 b7
    have : i = n := by omega
    subst this
    refine pw_iload d_TP_run_18 rfl ?_
    refine pw_iload_n d_TP_run_20 rfl ?_
    refine pw_icmp_ge (tgt := 89) d_TP_run_21 (by decide) (fun h => ?_) (fun h => ?_)
    · exact hend _ _ _
    · exact absurd (nI_le (Nat.le_refl i) (by omega)) h
  | succ m ih =>
    intro i hi b5 b7
    refine pw_iload d_TP_run_18 rfl ?_
    refine pw_iload_n d_TP_run_20 rfl ?_
    refine pw_icmp_ge (tgt := 89) d_TP_run_21 (by decide) (fun h => ?_) (fun h => ?_)
    · rw [nI_leI (by omega) (by omega)] at h
      omega
    · refine pw_aload_n d_TP_run_24 rfl ?_
      refine pw_getL d_TP_run_25 f_TP_27 rfl rfl ?_
      rw [r4]
      refine pw_lconst 0 d_TP_run_28 (by decide) ?_
      refine pw_lcmp d_TP_run_29 ?_
      refine pw_if_eq (tgt := 89) d_TP_run_30 (by decide) (fun h2 => ?_) (fun h2 => ?_)
      · rw [lg_eq] at h2
        obtain ⟨e1, e2⟩ := rs_zero h2 (m + 1)
        rw [hi] at e1 e2
        have := hend (some (vI (nI i))) b5 b7
        rw [e1, e2] at this
        rw [h2]
        exact this
      · refine pw_aload_n d_TP_run_33 rfl ?_
        refine pw_getL d_TP_run_34 f_TP_27 rfl rfl ?_
        rw [r4]
        refine pw_ldc2 (64) d_TP_run_37 g429 ?_
        refine pw_ldiv d_TP_run_40 (by decide) ?_
        refine pw_lstore d_TP_run_41 (by decide) ?_
        dsimp only [stL, kil, isL, cat]
        refine pw_lload d_TP_run_43 rfl ?_
        refine pw_lconst 0 d_TP_run_45 (by decide) ?_
        refine pw_lcmp d_TP_run_46 ?_
        refine pw_if_ne (tgt := 57) d_TP_run_47 (by decide) (fun h3 => ?_) (fun h3 => ?_)
        · rw [lg_eq] at h3
          have eg : gG (rsN (M.2.1 TPK 4) i) = rsN (M.2.1 TPK 4) i / 64 := by unfold gG; rw [if_neg h3]
          refine pw_lload d_TP_run_57 rfl ?_
          refine pw_lstore d_TP_run_59 (by decide) ?_
          dsimp only [stL, kil, isL, cat]
          refine pw_aload_n d_TP_run_61 rfl ?_
          refine pw_dup d_TP_run_62 rfl ?_
          refine pw_getL d_TP_run_63 f_TP_32 rfl rfl ?_
          rw [r0]
          refine pw_lload d_TP_run_66 rfl ?_
          refine pw_ladd d_TP_run_68 ?_
          refine pw_putL d_TP_run_69 f_TP_32 rfl rfl rfl ?_
          refine pw_aload_n d_TP_run_72 rfl ?_
          refine pw_dup d_TP_run_73 rfl ?_
          refine pw_getL d_TP_run_74 f_TP_27 rfl rfl ?_
          rw [show ∀ x, (sL (L2 M TPK 0 4 (M.2.1 TPK 0 + sgN (M.2.1 TPK 4) i) (rsN (M.2.1 TPK 4) i)) TPK 0 x).2.1 TPK 4 = rsN (M.2.1 TPK 4) i from fun x => by simp [sL, L2]]
          refine pw_lload d_TP_run_77 rfl ?_
          refine pw_lsub d_TP_run_79 ?_
          refine pw_putL d_TP_run_80 f_TP_27 rfl rfl rfl ?_
          refine pw_iinc (1) d_TP_run_83 rfl (by decide) (by decide) ?_
          dsimp only [stL, kil, isL, cat]
          refine pw_goto (tgt := 18) d_TP_run_86 (by decide) ?_
          rw [L2_s, if_neg (by decide), nI_1, i64_addA, ← eg]
          exact ih (i + 1) (by omega) _ _
        · rw [lg_eq] at h3
          have eg : gG (rsN (M.2.1 TPK 4) i) = rsN (M.2.1 TPK 4) i := by unfold gG; rw [if_pos h3]
          refine pw_aload_n d_TP_run_50 rfl ?_
          refine pw_getL d_TP_run_51 f_TP_27 rfl rfl ?_
          rw [r4]
          refine pw_goto (tgt := 59) d_TP_run_54 (by decide) ?_
          refine pw_lstore d_TP_run_59 (by decide) ?_
          dsimp only [stL, kil, isL, cat]
          refine pw_aload_n d_TP_run_61 rfl ?_
          refine pw_dup d_TP_run_62 rfl ?_
          refine pw_getL d_TP_run_63 f_TP_32 rfl rfl ?_
          rw [r0]
          refine pw_lload d_TP_run_66 rfl ?_
          refine pw_ladd d_TP_run_68 ?_
          refine pw_putL d_TP_run_69 f_TP_32 rfl rfl rfl ?_
          refine pw_aload_n d_TP_run_72 rfl ?_
          refine pw_dup d_TP_run_73 rfl ?_
          refine pw_getL d_TP_run_74 f_TP_27 rfl rfl ?_
          rw [show ∀ x, (sL (L2 M TPK 0 4 (M.2.1 TPK 0 + sgN (M.2.1 TPK 4) i) (rsN (M.2.1 TPK 4) i)) TPK 0 x).2.1 TPK 4 = rsN (M.2.1 TPK 4) i from fun x => by simp [sL, L2]]
          refine pw_lload d_TP_run_77 rfl ?_
          refine pw_lsub d_TP_run_79 ?_
          refine pw_putL d_TP_run_80 f_TP_27 rfl rfl rfl ?_
          refine pw_iinc (1) d_TP_run_83 rfl (by decide) (by decide) ?_
          dsimp only [stL, kil, isL, cat]
          refine pw_goto (tgt := 18) d_TP_run_86 (by decide) ?_
          rw [L2_s, if_neg (by decide), nI_1, i64_addA]
          have := ih (i + 1) (by omega) (some (vL (rsN (M.2.1 TPK 4) i / 64))) (some (vL (rsN (M.2.1 TPK 4) i)))
          rw [show sgN (M.2.1 TPK 4) (i + 1) = sgN (M.2.1 TPK 4) i + rsN (M.2.1 TPK 4) i from by show _ + gG _ = _; rw [eg], show rsN (M.2.1 TPK 4) (i + 1) = rsN (M.2.1 TPK 4) i - rsN (M.2.1 TPK 4) i from by show _ - gG _ = _; rw [eg]] at this
          exact this
/-- a clock that has gone on: stamp, rest, uptime -/
def psC (M : Mem) (n : Nat) : Mem := (fun q j => if q = TPK ∧ j = 1 then M.1 TPK 1 + nI n else M.1 q j, fun q i => if q = TPK ∧ i = 0 then M.2.1 TPK 0 + sgN (M.2.1 TPK 4) n + (nI n).toInt64 * (4294967296 + (M.1 TPK 2).toInt64 + M.2.1 TPK 3) else if q = TPK ∧ i = 4 then rsN (M.2.1 TPK 4) n else M.2.1 q i, M.2.2)
theorem pm_run (n : Nat) (hn : n ≤ 4096) (mc ms : Nat) : PM G l m_TP_run [vR (some TPK), vI (nI n)] M rV (psC M n) mc ms := by
  refine pm_in [some (vR (some TPK)), some (vI (nI n)), none, none, none, none, none, none, none] rfl ?_
  refine pw_ldc2 (4294967296) d_TP_run_0 g428 ?_
  refine pw_aload_n d_TP_run_3 rfl ?_
  refine pw_getI d_TP_run_4 f_TP_20 rfl rfl ?_
  refine pw_i2l d_TP_run_7 ?_
  refine pw_ladd d_TP_run_8 ?_
  refine pw_aload_n d_TP_run_9 rfl ?_
  refine pw_getL d_TP_run_10 f_TP_23 rfl rfl ?_
  refine pw_ladd d_TP_run_13 ?_
  refine pw_lstore_n d_TP_run_14 (by decide) ?_
  dsimp only [stL, kil, isL, cat]
  refine pw_iconst 0 d_TP_run_15 (by decide) ?_
  refine pw_istore d_TP_run_16 (by decide) ?_
  dsimp only [stL, kil, isL, cat]
  have h0 := lp_run (G := G) (l := l) (M := M) n hn (4294967296 + (M.1 TPK 2).toInt64 + M.2.1 TPK 3) rV (psC M n) mc ms none none ?_ n 0 (by omega) none none
  · rw [show M.2.1 TPK 0 + sgN (M.2.1 TPK 4) 0 = M.2.1 TPK 0 from i64_add0 _, show rsN (M.2.1 TPK 4) 0 = M.2.1 TPK 4 from rfl, L2_self] at h0
    exact h0
  · intro b4 b5 b7
    refine pw_aload_n d_TP_run_89 rfl ?_
    refine pw_dup d_TP_run_90 rfl ?_
    refine pw_getL d_TP_run_91 f_TP_32 rfl rfl ?_
    refine pw_iload_n d_TP_run_94 rfl ?_
    refine pw_i2l d_TP_run_95 ?_
    refine pw_lload_n d_TP_run_96 rfl ?_
    refine pw_lmul d_TP_run_97 ?_
    refine pw_ladd d_TP_run_98 ?_
    refine pw_putL d_TP_run_99 f_TP_32 rfl rfl rfl ?_
    refine pw_aload_n d_TP_run_102 rfl ?_
    refine pw_dup d_TP_run_103 rfl ?_
    refine pw_getI d_TP_run_104 f_TP_35 rfl rfl ?_
    refine pw_iload_n d_TP_run_107 rfl ?_
    refine pw_iadd d_TP_run_108 ?_
    refine pw_putI d_TP_run_109 f_TP_35 rfl rfl rfl ?_
    refine pw_return d_TP_run_112 rfl ?_ ?_
    · rfl
    · unfold psC
      refine Prod.ext ?_ (Prod.ext ?_ rfl)
      · funext q j
        rfl
      · funext q i
        show ite _ _ (ite _ _ _) = ite _ _ (ite _ _ (ite _ _ _))
        by_cases h : q = TPK ∧ i = 0
        · rw [if_pos h, if_pos h]; simp [L2]
        · rw [if_neg h, if_neg h, if_neg h]
theorem pm_pass (hM : M.2.2.1 = rf) (n : Nat) (hn : n ≤ 4096) : PM G l m_TK_pass [vR (some TKK), vI (nI n)] M (rI (M.1 TPK 1 + nI n)) (psC M n) 0 0 := by
  refine pm_in [some (vR (some TKK)), some (vI (nI n))] rfl ?_
  refine pw_iload_n d_TK_pass_0 rfl ?_
  refine pw_if_lt (tgt := 11) d_TK_pass_1 (by decide) (fun h => ?_) (fun h => ?_)
  · exact absurd h (nI_pos (by omega))
  · refine pw_iload_n d_TK_pass_4 rfl ?_
    refine pw_sipush (4096) d_TK_pass_5 (by decide) ?_
    refine pw_icmp_le (tgt := 21) d_TK_pass_8 (by decide) (fun h => ?_) (fun h => ?_)
    · refine pw_aload_n d_TK_pass_21 rfl ?_
      refine pw_getR d_TK_pass_22 f_TK_24 rfl rfl (rfO hM rfl) ?_
      refine pw_iload_n d_TK_pass_25 rfl ?_
      refine c_TK_pass_26 rfl (Nat.le_of_ble_eq_true rfl) (pm_run n hn 0 0) ?_
      refine pw_aload_n d_TK_pass_29 rfl ?_
      refine pw_getR d_TK_pass_30 f_TK_24 rfl rfl (rfO hM rfl) ?_
      refine pw_getI d_TK_pass_33 f_TK_77 rfl rfl ?_
      refine pw_ireturn d_TK_pass_36 rfl ?_ ?_
      · simp [psC]
      · rfl
    · exact absurd (nI_le (b := 4096) hn (by decide)) h
theorem pm_pass_x (n : Int32) (h : n < 0 ∨ 4096 < n) : PM G l m_TK_pass [vR (some TKK), vI n] M (tE 0) M 1 6 := by
  refine pm_in [some (vR (some TKK)), some (vI n)] rfl ?_
  refine pw_iload_n d_TK_pass_0 rfl ?_
  refine pw_if_lt (tgt := 11) d_TK_pass_1 (by decide) (fun h1 => ?_) (fun h1 => ?_)
  · exact th_TK_pass_11 (Nat.le_of_ble_eq_true rfl) rfl rfl
  · refine pw_iload_n d_TK_pass_4 rfl ?_
    refine pw_sipush (4096) d_TK_pass_5 (by decide) ?_
    refine pw_icmp_le (tgt := 21) d_TK_pass_8 (by decide) (fun h2 => ?_) (fun h2 => ?_)
    · exact absurd (h.resolve_left h1) ((i32_nlt _ _).mpr h2)
    · exact th_TK_pass_11 (Nat.le_of_ble_eq_true rfl) rfl rfl
/-! the reference -/
def cgN (pl r : Int64) : Nat → Int64
  | 0 => 0
  | n + 1 => cgN pl r n + (pl + gG (rsN r n))
/-- the reference's clock that has gone on -/
def psM (M : Mem) (i : Nat) : Mem := (fun q j => if q = MK ∧ j = 6 then M.1 MK 6 + nI i else M.1 q j, fun q j => if q = MK ∧ j = 5 then M.2.1 MK 5 + cgN (4294967296 + M.2.1 MK 7 + M.2.1 MK 8) (M.2.1 MK 9) i else if q = MK ∧ j = 9 then rsN (M.2.1 MK 9) i else M.2.1 q j, M.2.2)
theorem psM_0 : psM M 0 = M := by
  unfold psM
  refine Prod.ext ?_ (Prod.ext ?_ rfl)
  · funext q j
    show ite _ _ _ = _
    by_cases h : q = MK ∧ j = 6
    · rw [if_pos h, h.1, h.2]
      show _ + (0 : Int32) = _
      apply Int32.toBitVec_inj.mp; rw [Int32.toBitVec_add]; exact BitVec.add_zero _
    · rw [if_neg h]
  · funext q j
    show ite _ _ (ite _ _ _) = _
    by_cases h : q = MK ∧ j = 5
    · rw [if_pos h, h.1, h.2]; exact i64_add0 _
    · rw [if_neg h]
      by_cases h2 : q = MK ∧ j = 9
      · rw [if_pos h2, h2.1, h2.2]; rfl
      · rw [if_neg h2]
theorem i32_addA (x y z : Int32) : x + y + z = x + (y + z) := by apply Int32.toBitVec_inj.mp; simp only [Int32.toBitVec_add]; exact BitVec.add_assoc _ _ _
theorem psM_s {i : Nat} {g : Int64} (hg : g = gG (rsN (M.2.1 MK 9) i)) : sI (sL (sL (psM M i) MK 5 (M.2.1 MK 5 + cgN (4294967296 + M.2.1 MK 7 + M.2.1 MK 8) (M.2.1 MK 9) i + (4294967296 + M.2.1 MK 7 + M.2.1 MK 8 + g))) MK 9 (rsN (M.2.1 MK 9) i - g)) MK 6 (M.1 MK 6 + nI i + 1) = psM M (i + 1) := by
  subst hg
  unfold psM sI sL
  refine Prod.ext ?_ (Prod.ext ?_ rfl)
  · funext q j
    show ite _ _ (ite _ _ _) = ite _ _ _
    by_cases h : q = MK ∧ j = 6
    · rw [if_pos h, if_pos h, i32_addA, nI_1]
    · rw [if_neg h, if_neg h, if_neg h]
  · funext q j
    show ite _ _ (ite _ _ (ite _ _ (ite _ _ _))) = ite _ _ (ite _ _ _)
    by_cases h : q = MK ∧ j = 5
    · rw [if_neg (fun c => by omega), if_pos h, if_pos h, i64_addA]; rfl
    · rw [if_neg h, if_neg h, if_neg h]
      by_cases h2 : q = MK ∧ j = 9
      · rw [if_pos h2, if_pos h2]; rfl
      · rw [if_neg h2, if_neg h2, if_neg h2]
theorem lp_mopass (n : Nat) (hn : n ≤ 4096) (h0 : M.1 MK 0 = 0) : ∀ (m i : Nat), i + m = n → ∀ b3 : Option PV, PW G l m_MO_pass 22 [some (vR (some MK)), some (vI (nI n)), some (vI (nI i)), b3, none] [] (psM M i) (rI (M.1 MK 6 + nI n)) (psM M n) 0 0 := by
  intro m
  have e0 : ∀ i, (psM M i).1 MK 0 = 0 := fun i => by simp [psM, h0]
  have e6 : ∀ i, (psM M i).1 MK 6 = M.1 MK 6 + nI i := fun i => by simp [psM]
  have e5 : ∀ i, (psM M i).2.1 MK 5 = M.2.1 MK 5 + cgN (4294967296 + M.2.1 MK 7 + M.2.1 MK 8) (M.2.1 MK 9) i := fun i => by simp [psM]
  have e9 : ∀ i, (psM M i).2.1 MK 9 = rsN (M.2.1 MK 9) i := fun i => by simp [psM]
  have e7 : ∀ i, (psM M i).2.1 MK 7 = M.2.1 MK 7 := fun i => by simp [psM]
  have e8 : ∀ i, (psM M i).2.1 MK 8 = M.2.1 MK 8 := fun i => by simp [psM]
  induction m with
  | zero =>
    intro i hi b3
    have : i = n := by omega
    subst this
    refine pw_iload_n d_MO_pass_22 rfl ?_
    refine pw_iload_n d_MO_pass_23 rfl ?_
    refine pw_icmp_ge (tgt := 113) d_MO_pass_24 (by decide) (fun h => ?_) (fun h => ?_)
    · refine pw_aload_n d_MO_pass_113 rfl ?_
      refine pw_getI d_MO_pass_114 f_MO_60 rfl rfl ?_
      rw [e0]
      refine pw_if_le (tgt := 124) d_MO_pass_117 (by decide) (fun _ => ?_) (fun h => absurd (by decide) h)
      refine pw_aload_n d_MO_pass_124 rfl ?_
      refine pw_getI d_MO_pass_125 f_MO_90 rfl rfl ?_
      refine pw_ireturn d_MO_pass_128 rfl ?_ ?_
      · rw [e6]
      · rfl
    · exact absurd (nI_le (Nat.le_refl i) (by omega)) h
  | succ m ih =>
    intro i hi b3
    refine pw_iload_n d_MO_pass_22 rfl ?_
    refine pw_iload_n d_MO_pass_23 rfl ?_
    refine pw_icmp_ge (tgt := 113) d_MO_pass_24 (by decide) (fun h => ?_) (fun h => ?_)
    · rw [nI_leI (by omega) (by omega)] at h
      omega
    · refine pw_aload_n d_MO_pass_27 rfl ?_
      refine pw_getI d_MO_pass_28 f_MO_60 rfl rfl ?_
      rw [e0]
      refine pw_if_ne (tgt := 113) d_MO_pass_31 (by decide) (fun h => absurd (by decide) h) (fun _ => ?_)
      refine pw_aload_n d_MO_pass_34 rfl ?_
      refine pw_getL d_MO_pass_35 f_MO_73 rfl rfl ?_
      rw [e9]
      refine pw_ldc2 (64) d_MO_pass_38 g906 ?_
      refine pw_ldiv d_MO_pass_41 (by decide) ?_
      refine pw_lconst 0 d_MO_pass_42 (by decide) ?_
      refine pw_lcmp d_MO_pass_43 ?_
      refine pw_if_ne (tgt := 54) d_MO_pass_44 (by decide) (fun h3 => ?_) (fun h3 => ?_)
      · rw [lg_eq] at h3
        have eg : rsN (M.2.1 MK 9) i / 64 = gG (rsN (M.2.1 MK 9) i) := by unfold gG; rw [if_neg h3]
        refine pw_aload_n d_MO_pass_54 rfl ?_
        refine pw_getL d_MO_pass_55 f_MO_73 rfl rfl ?_
        rw [e9]
        refine pw_ldc2 (64) d_MO_pass_58 g906 ?_
        refine pw_ldiv d_MO_pass_61 (by decide) ?_
        rw [eg]
        refine pw_lstore_n d_MO_pass_62 (by decide) ?_
        dsimp only [stL, kil, isL, cat]
        refine pw_aload_n d_MO_pass_63 rfl ?_
        refine pw_dup d_MO_pass_64 rfl ?_
        refine pw_getL d_MO_pass_65 f_MO_79 rfl rfl ?_
        rw [e5]
        refine pw_ldc2 (4294967296) d_MO_pass_68 g907 ?_
        refine pw_aload_n d_MO_pass_71 rfl ?_
        refine pw_getL d_MO_pass_72 f_MO_84 rfl rfl ?_
        rw [e7]
        refine pw_ladd d_MO_pass_75 ?_
        refine pw_aload_n d_MO_pass_76 rfl ?_
        refine pw_getL d_MO_pass_77 f_MO_87 rfl rfl ?_
        rw [e8]
        refine pw_ladd d_MO_pass_80 ?_
        refine pw_lload_n d_MO_pass_81 rfl ?_
        refine pw_ladd d_MO_pass_82 ?_
        refine pw_ladd d_MO_pass_83 ?_
        refine pw_putL d_MO_pass_84 f_MO_79 rfl rfl rfl ?_
        refine pw_aload_n d_MO_pass_87 rfl ?_
        refine pw_dup d_MO_pass_88 rfl ?_
        refine pw_getL d_MO_pass_89 f_MO_73 rfl rfl ?_
        rw [show ∀ x, (sL (psM M i) MK 5 x).2.1 MK 9 = rsN (M.2.1 MK 9) i from fun x => by simp [sL, psM]]
        refine pw_lload_n d_MO_pass_92 rfl ?_
        refine pw_lsub d_MO_pass_93 ?_
        refine pw_putL d_MO_pass_94 f_MO_73 rfl rfl rfl ?_
        refine pw_aload_n d_MO_pass_97 rfl ?_
        refine pw_dup d_MO_pass_98 rfl ?_
        refine pw_getI d_MO_pass_99 f_MO_90 rfl rfl ?_
        rw [show ∀ x y, (sL (sL (psM M i) MK 5 x) MK 9 y).1 MK 6 = M.1 MK 6 + nI i from fun x y => by simp [sL, psM]]
        refine pw_iconst 1 d_MO_pass_102 (by decide) ?_
        refine pw_iadd d_MO_pass_103 ?_
        refine pw_putI d_MO_pass_104 f_MO_90 rfl rfl rfl ?_
        refine pw_iinc (1) d_MO_pass_107 rfl (by decide) (by decide) ?_
        dsimp only [stL, kil, isL, cat]
        refine pw_goto (tgt := 22) d_MO_pass_110 (by decide) ?_
        rw [nI_1, psM_s rfl]
        exact ih (i + 1) (by omega) _
      · rw [lg_eq] at h3
        have eg : rsN (M.2.1 MK 9) i = gG (rsN (M.2.1 MK 9) i) := by unfold gG; rw [if_pos h3]
        refine pw_aload_n d_MO_pass_47 rfl ?_
        refine pw_getL d_MO_pass_48 f_MO_73 rfl rfl ?_
        rw [e9]
        refine pw_goto (tgt := 62) d_MO_pass_51 (by decide) ?_
        refine pw_lstore_n d_MO_pass_62 (by decide) ?_
        dsimp only [stL, kil, isL, cat]
        refine pw_aload_n d_MO_pass_63 rfl ?_
        refine pw_dup d_MO_pass_64 rfl ?_
        refine pw_getL d_MO_pass_65 f_MO_79 rfl rfl ?_
        rw [e5]
        refine pw_ldc2 (4294967296) d_MO_pass_68 g907 ?_
        refine pw_aload_n d_MO_pass_71 rfl ?_
        refine pw_getL d_MO_pass_72 f_MO_84 rfl rfl ?_
        rw [e7]
        refine pw_ladd d_MO_pass_75 ?_
        refine pw_aload_n d_MO_pass_76 rfl ?_
        refine pw_getL d_MO_pass_77 f_MO_87 rfl rfl ?_
        rw [e8]
        refine pw_ladd d_MO_pass_80 ?_
        refine pw_lload_n d_MO_pass_81 rfl ?_
        refine pw_ladd d_MO_pass_82 ?_
        refine pw_ladd d_MO_pass_83 ?_
        refine pw_putL d_MO_pass_84 f_MO_79 rfl rfl rfl ?_
        refine pw_aload_n d_MO_pass_87 rfl ?_
        refine pw_dup d_MO_pass_88 rfl ?_
        refine pw_getL d_MO_pass_89 f_MO_73 rfl rfl ?_
        rw [show ∀ x, (sL (psM M i) MK 5 x).2.1 MK 9 = rsN (M.2.1 MK 9) i from fun x => by simp [sL, psM]]
        refine pw_lload_n d_MO_pass_92 rfl ?_
        refine pw_lsub d_MO_pass_93 ?_
        refine pw_putL d_MO_pass_94 f_MO_73 rfl rfl rfl ?_
        refine pw_aload_n d_MO_pass_97 rfl ?_
        refine pw_dup d_MO_pass_98 rfl ?_
        refine pw_getI d_MO_pass_99 f_MO_90 rfl rfl ?_
        rw [show ∀ x y, (sL (sL (psM M i) MK 5 x) MK 9 y).1 MK 6 = M.1 MK 6 + nI i from fun x y => by simp [sL, psM]]
        refine pw_iconst 1 d_MO_pass_102 (by decide) ?_
        refine pw_iadd d_MO_pass_103 ?_
        refine pw_putI d_MO_pass_104 f_MO_90 rfl rfl rfl ?_
        refine pw_iinc (1) d_MO_pass_107 rfl (by decide) (by decide) ?_
        dsimp only [stL, kil, isL, cat]
        refine pw_goto (tgt := 22) d_MO_pass_110 (by decide) ?_
        rw [nI_1, psM_s eg]
        exact ih (i + 1) (by omega) _
theorem mo_pass (n : Nat) (hn : n ≤ 4096) : PM G l m_MO_pass [vR (some MK), vI (nI n)] M (rI (M.1 MK 6 + nI n)) (psM (sI M MK 0 0) n) 0 0 := by
  refine pm_in [some (vR (some MK)), some (vI (nI n)), none, none, none] rfl ?_
  refine pw_aload_n d_MO_pass_0 rfl ?_
  refine pw_iload_n d_MO_pass_1 rfl ?_
  refine pw_if_lt (tgt := 12) d_MO_pass_2 (by decide) (fun h => ?_) (fun h => ?_)
  · exact absurd h (nI_pos (by omega))
  · refine pw_iload_n d_MO_pass_5 rfl ?_
    refine pw_sipush (4096) d_MO_pass_6 (by decide) ?_
    refine pw_icmp_le (tgt := 16) d_MO_pass_9 (by decide) (fun h => ?_) (fun h => ?_)
    · refine pw_iconst 0 d_MO_pass_16 (by decide) ?_
      refine pw_putI d_MO_pass_17 f_MO_60 rfl rfl rfl ?_
      refine pw_iconst 0 d_MO_pass_20 (by decide) ?_
      refine pw_istore_n d_MO_pass_21 (by decide) ?_
      dsimp only [stL, kil, isL, cat]
      have := lp_mopass (G := G) (l := l) (M := sI M MK 0 0) n hn (by simp [sI]) n 0 (by omega) none
      rw [psM_0, show (sI M MK 0 0).1 MK 6 = M.1 MK 6 from by simp [sI]] at this
      exact this
    · exact absurd (nI_le (b := 4096) hn (by decide)) h
theorem mo_pass_x (n : Int32) (h : n < 0 ∨ 4096 < n) : PM G l m_MO_pass [vR (some MK), vI n] M (rI 0) (sI M MK 0 1) 0 0 := by
  have key : PW G l m_MO_pass 17 [some (vR (some MK)), some (vI n), none, none, none] [vI 1, vR (some MK)] M (rI 0) (sI M MK 0 1) 0 0 := by
    refine pw_putI d_MO_pass_17 f_MO_60 rfl rfl rfl ?_
    refine pw_iconst 0 d_MO_pass_20 (by decide) ?_
    refine pw_istore_n d_MO_pass_21 (by decide) ?_
    dsimp only [stL, kil, isL, cat]
    refine pw_iload_n d_MO_pass_22 rfl ?_
    refine pw_iload_n d_MO_pass_23 rfl ?_
    refine pw_icmp_ge (tgt := 113) d_MO_pass_24 (by decide) (fun h => ?_) (fun h => ?_)
    · refine pw_aload_n d_MO_pass_113 rfl ?_
      refine pw_getI d_MO_pass_114 f_MO_60 rfl rfl ?_
      rw [sI_s]
      refine pw_if_le (tgt := 124) d_MO_pass_117 (by decide) (fun h => absurd h (by decide)) (fun _ => ?_)
      refine pw_iconst 0 d_MO_pass_120 (by decide) ?_
      refine pw_goto (tgt := 128) d_MO_pass_121 (by decide) ?_
      refine pw_ireturn d_MO_pass_128 rfl ?_ ?_
      · rfl
      · rfl
    · refine pw_aload_n d_MO_pass_27 rfl ?_
      refine pw_getI d_MO_pass_28 f_MO_60 rfl rfl ?_
      rw [sI_s]
      refine pw_if_ne (tgt := 113) d_MO_pass_31 (by decide) (fun _ => ?_) (fun h => absurd h (by decide))
      refine pw_aload_n d_MO_pass_113 rfl ?_
      refine pw_getI d_MO_pass_114 f_MO_60 rfl rfl ?_
      rw [sI_s]
      refine pw_if_le (tgt := 124) d_MO_pass_117 (by decide) (fun h => absurd h (by decide)) (fun _ => ?_)
      refine pw_iconst 0 d_MO_pass_120 (by decide) ?_
      refine pw_goto (tgt := 128) d_MO_pass_121 (by decide) ?_
      refine pw_ireturn d_MO_pass_128 rfl ?_ ?_
      · rfl
      · rfl
  refine pm_in [some (vR (some MK)), some (vI n), none, none, none] rfl ?_
  refine pw_aload_n d_MO_pass_0 rfl ?_
  refine pw_iload_n d_MO_pass_1 rfl ?_
  refine pw_if_lt (tgt := 12) d_MO_pass_2 (by decide) (fun h1 => ?_) (fun h1 => ?_)
  · refine pw_iconst 1 d_MO_pass_12 (by decide) ?_
    refine pw_goto (tgt := 17) d_MO_pass_13 (by decide) ?_
    exact key
  · refine pw_iload_n d_MO_pass_5 rfl ?_
    refine pw_sipush (4096) d_MO_pass_6 (by decide) ?_
    refine pw_icmp_le (tgt := 16) d_MO_pass_9 (by decide) (fun h2 => ?_) (fun h2 => ?_)
    · exact absurd (h.resolve_left h1) ((i32_nlt _ _).mpr h2)
    · refine pw_iconst 1 d_MO_pass_12 (by decide) ?_
      refine pw_goto (tgt := 17) d_MO_pass_13 (by decide) ?_
      exact key
end PS1
