/-! THE ORDER is a bijection -/
/-- sample i comes before sample k -/
def bl (d : Nat → Int64) (i k : Nat) : Prop := d i < d k ∨ (d i = d k ∧ k < i)
theorem bl_int (d : Nat → Int64) (i k : Nat) : bl d i k ↔ ((d i).toInt < (d k).toInt ∨ ((d i).toInt = (d k).toInt ∧ k < i)) := by
  unfold bl
  rw [Int64.lt_iff_toInt_lt, Int64.toInt_inj]
theorem bl_trans {d : Nat → Int64} {a b c : Nat} (h1 : bl d a b) (h2 : bl d b c) : bl d a c := by
  rw [bl_int] at *
  omega
theorem bl_irr {d : Nat → Int64} {a : Nat} : ¬ bl d a a := by
  rw [bl_int]
  omega
theorem bl_tot {d : Nat → Int64} {a b : Nat} (h : a ≠ b) : bl d a b ∨ bl d b a := by
  rw [bl_int, bl_int]
  omega
theorem bfN_succ (d : Nat → Int64) (k i : Nat) : bfN d k (i + 1) = bfN d k i ∧ ¬ bl d i k ∨ bfN d k (i + 1) = bfN d k i + 1 ∧ bl d i k := by
  rw [bfN]
  by_cases h : bl d i k
  · exact Or.inr ⟨if_pos h, h⟩
  · exact Or.inl ⟨if_neg h, h⟩
theorem bf_mono {d : Nat → Int64} {a b : Nat} : ∀ n, (∀ i, i < n → bl d i a → bl d i b) → bfN d a n ≤ bfN d b n
  | 0, _ => Nat.le_refl _
  | n + 1, h => by
    have ih := bf_mono n (fun i hi => h i (by omega))
    rcases bfN_succ d a n with ⟨e1, h1⟩ | ⟨e1, h1⟩
    · rcases bfN_succ d b n with ⟨e2, h2⟩ | ⟨e2, h2⟩ <;> omega
    · have := h n (by omega) h1
      rcases bfN_succ d b n with ⟨e2, h2⟩ | ⟨e2, h2⟩
      · exact absurd this h2
      · omega
theorem bf_strict {d : Nat → Int64} {a b j : Nat} : ∀ n, (∀ i, i < n → bl d i a → bl d i b) → j < n → bl d j b → ¬ bl d j a → bfN d a n < bfN d b n
  | 0, _, hj, _, _ => by omega
  | n + 1, h, hj, h1, h2 => by
    have ihm := bf_mono n (fun i hi => h i (by omega))
    by_cases e : j = n
    · subst e
      rcases bfN_succ d a j with ⟨e1, q1⟩ | ⟨e1, q1⟩
      · rcases bfN_succ d b j with ⟨e2, q2⟩ | ⟨e2, q2⟩
        · exact absurd h1 q2
        · omega
      · exact absurd q1 h2
    · have ih := bf_strict n (fun i hi => h i (by omega)) (by omega) h1 h2
      rcases bfN_succ d a n with ⟨e1, q1⟩ | ⟨e1, q1⟩
      · rcases bfN_succ d b n with ⟨e2, q2⟩ | ⟨e2, q2⟩ <;> omega
      · have := h n (by omega) q1
        rcases bfN_succ d b n with ⟨e2, q2⟩ | ⟨e2, q2⟩
        · exact absurd this q2
        · omega
theorem bf_lt {d : Nat → Int64} {a b n : Nat} (ha : a < n) (h : bl d a b) : bfN d a n < bfN d b n := bf_strict n (fun _ _ q => bl_trans q h) ha h bl_irr
theorem bf_inj {d : Nat → Int64} {a b n : Nat} (ha : a < n) (hb : b < n) (h : bfN d a n = bfN d b n) : a = b := by
  by_cases e : a = b
  · exact e
  · rcases bl_tot (d := d) e with q | q
    · have := bf_lt ha q; omega
    · have := bf_lt hb q; omega
theorem bf_sur (d : Nat → Int64) : ∀ c pl, pl < c → ∃ k, k < c ∧ bfN d k c = pl
  | 0, pl, h => by omega
  | c + 1, pl, h => by
    have hr : bfN d c (c + 1) = bfN d c c := by
      rcases bfN_succ d c c with ⟨e, _⟩ | ⟨_, q⟩
      · exact e
      · exact absurd q bl_irr
    have hle := bfN_le d c c
    by_cases e : pl = bfN d c c
    · exact ⟨c, by omega, by omega⟩
    · by_cases e2 : pl < bfN d c c
      · obtain ⟨k, hk, hb⟩ := bf_sur d c pl (by omega)
        have hl : bl d k c := by
          rcases bl_tot (d := d) (a := k) (b := c) (by omega) with q | q
          · exact q
          · have := bf_mono (d := d) (a := c) (b := k) c (fun i _ z => bl_trans z q)
            omega
        refine ⟨k, by omega, ?_⟩
        rcases bfN_succ d k c with ⟨e1, _⟩ | ⟨_, q⟩
        · omega
        · exact absurd (bl_trans hl q) bl_irr
      · obtain ⟨k, hk, hb⟩ := bf_sur d c (pl - 1) (by omega)
        have hl : bl d c k := by
          rcases bl_tot (d := d) (a := k) (b := c) (by omega) with q | q
          · have := bf_lt (n := c) hk q
            omega
          · exact q
        refine ⟨k, by omega, ?_⟩
        rcases bfN_succ d k c with ⟨_, q⟩ | ⟨e1, _⟩
        · exact absurd hl q
        · omega
theorem bf_ltc {d : Nat → Int64} {k c : Nat} (hk : k < c) : bfN d k c < c := by
  have h1 : ∀ n, k < n → bfN d k n < n := by
    intro n
    induction n with
    | zero => intro h; omega
    | succ n ih =>
      intro h
      by_cases e : k = n
      · subst e
        have := bfN_le d k k
        rcases bfN_succ d k k with ⟨e1, _⟩ | ⟨_, q⟩
        · omega
        · exact absurd q bl_irr
      · have := ih (by omega)
        rcases bfN_succ d k n with ⟨e1, _⟩ | ⟨e1, _⟩ <;> omega
  exact h1 c hk
theorem od_of {d : Nat → Int64} {c pl k : Nat} (hk : bfN d k c = pl) (hu : ∀ k', k' < c → bfN d k' c = pl → k' = k) : ∀ n, n ≤ c → k < n → odN d c pl n = some k
  | 0, _, h => by omega
  | n + 1, hn, h => by
    rw [odN]
    by_cases e : bfN d n c = pl
    · rw [if_pos e, hu n (by omega) e]
    · rw [if_neg e]
      have : k ≠ n := fun q => e (q ▸ hk)
      exact od_of hk hu n (by omega) (by omega)
/-- the sample at a place, as a number -/
def odK (d : Nat → Int64) (c pl : Nat) : Nat := (odN d c pl c).getD 0
theorem odK_of {d : Nat → Int64} {c k : Nat} (hk : k < c) : odN d c (bfN d k c) c = some k := od_of rfl (fun k' h' e => bf_inj h' hk e) c (Nat.le_refl _) hk
theorem odK_is {d : Nat → Int64} {c k : Nat} (hk : k < c) : odK d c (bfN d k c) = k := by
  unfold odK
  rw [odK_of hk]
  rfl
theorem odK_spec {d : Nat → Int64} {c pl : Nat} (h : pl < c) : odN d c pl c = some (odK d c pl) ∧ odK d c pl < c ∧ bfN d (odK d c pl) c = pl := by
  obtain ⟨k, hk, e⟩ := bf_sur d c pl h
  subst e
  have h1 := odK_of (d := d) hk
  have h2 := odK_is (d := d) hk
  rw [h2]
  exact ⟨h1, hk, rfl⟩
/-! sums, roots -/
def smL (f : Nat → Int64) : Nat → Int64
  | 0 => 0
  | n + 1 => smL f n + f n
theorem smL_congr {f g : Nat → Int64} : ∀ n, (∀ i, i < n → f i = g i) → smL f n = smL g n
  | 0, _ => rfl
  | n + 1, h => by rw [smL, smL, smL_congr n (fun i hi => h i (by omega)), h n (by omega)]
/-- the greatest number whose square is no more -/
def isq : Nat → Nat
  | 0 => 0
  | a + 1 => if (isq a + 1) * (isq a + 1) ≤ a + 1 then isq a + 1 else isq a
theorem isq_spec : ∀ a, isq a * isq a ≤ a ∧ a < (isq a + 1) * (isq a + 1)
  | 0 => by decide
  | a + 1 => by
    obtain ⟨h1, h2⟩ := isq_spec a
    rw [isq]
    by_cases h : (isq a + 1) * (isq a + 1) ≤ a + 1
    · rw [if_pos h]
      refine ⟨h, ?_⟩
      have : (isq a + 1 + 1) * (isq a + 1 + 1) = (isq a + 1) * (isq a + 1) + 2 * (isq a + 1) + 1 := by
        simp only [Nat.add_mul, Nat.mul_add]; omega
      omega
    · rw [if_neg h]
      omega
theorem sq_mono {a b : Nat} (h : a ≤ b) : a * a ≤ b * b := Nat.mul_le_mul h h
theorem isq_uniq {a r : Nat} (h1 : r * r ≤ a) (h2 : a < (r + 1) * (r + 1)) : isq a = r := by
  obtain ⟨g1, g2⟩ := isq_spec a
  by_cases h : isq a < r
  · have := sq_mono (show isq a + 1 ≤ r from h); omega
  · by_cases h' : r < isq a
    · have := sq_mono (show r + 1 ≤ isq a from h'); omega
    · omega
def sqL (d : Int64) : Int64 := flr d 4096 * flr d 4096
theorem i32_m1 (x : Int32) : x + (-1) = x - 1 := by
  apply Int32.toBitVec_inj.mp
  rw [Int32.toBitVec_add, Int32.toBitVec_sub, BitVec.sub_eq_add_neg]
  rfl
section RT
variable {G : GG} {l : Launch} {M : Mem}
theorem lp_mroot (a : Nat) (ha : a < 2 ^ 63) : ∀ n lo hi, hi - lo ≤ n → lo ≤ hi → hi ≤ 3037000499 → lo * lo ≤ a → a < (hi + 1) * (hi + 1) → ∀ x : Option PV, PW G l m_MO_root 7 [some (vL (lN a)), none, some (vL (lN lo)), none, some (vL (lN hi)), none, x, none] [] M (rL (lN (isq a))) M 0 0 := by
  intro n
  induction n with
  | zero =>
    intro lo hi hn h1 h2 h3 h4 x
    have : lo = hi := by omega
    subst this
    refine pw_lload_n d_MO_root_7 rfl ?_
    refine pw_lload d_MO_root_8 rfl ?_
    refine pw_lcmp d_MO_root_10 ?_
    refine pw_if_ge (tgt := 51) d_MO_root_11 (by decide) (fun _ => ?_) (fun h => absurd ((lg_ge _ _).mpr (fun q => by rw [pk_lLT (by omega) (by omega)] at q; omega)) h)
    refine pw_lload_n d_MO_root_51 rfl ?_
    refine pw_lreturn d_MO_root_52 rfl ?_ ?_
    · rw [isq_uniq h3 h4]
    · rfl
  | succ n ih =>
    intro lo hi hn h1 h2 h3 h4 x
    refine pw_lload_n d_MO_root_7 rfl ?_
    refine pw_lload d_MO_root_8 rfl ?_
    refine pw_lcmp d_MO_root_10 ?_
    refine pw_if_ge (tgt := 51) d_MO_root_11 (by decide) (fun h => ?_) (fun h => ?_)
    · rw [lg_ge, pk_lLT (by omega) (by omega)] at h
      have : lo = hi := by omega
      subst this
      refine pw_lload_n d_MO_root_51 rfl ?_
      refine pw_lreturn d_MO_root_52 rfl ?_ ?_
      · rw [isq_uniq h3 h4]
      · rfl
    · rw [lg_ge, Classical.not_not, pk_lLT (by omega) (by omega)] at h
      refine pw_lload_n d_MO_root_14 rfl ?_
      refine pw_lload d_MO_root_15 rfl ?_
      refine pw_ladd d_MO_root_17 ?_
      refine pw_lconst 1 d_MO_root_18 (by decide) ?_
      refine pw_ladd d_MO_root_19 ?_
      refine pw_ldc2 (2) d_MO_root_20 g955 ?_
      rw [lN_add, lN_1, show (2 : Int64) = lN 2 from rfl]
      refine pw_ldiv d_MO_root_23 (by decide) ?_
      rw [pk_lDiv (by omega) (by omega) (by omega)]
      have hm1 : lo < (lo + hi + 1) / 2 := by omega
      have hm2 : (lo + hi + 1) / 2 ≤ hi := by omega
      generalize (lo + hi + 1) / 2 = m at hm1 hm2 ⊢
      refine pw_lstore d_MO_root_24 (by decide) ?_
      dsimp only [stL, kil, isL, cat]
      refine pw_lload d_MO_root_26 rfl ?_
      refine pw_lload d_MO_root_28 rfl ?_
      refine pw_lmul d_MO_root_30 ?_
      rw [lN_mul]
      refine pw_lload_n d_MO_root_31 rfl ?_
      refine pw_lcmp d_MO_root_32 ?_
      have hmm : m * m ≤ 3037000499 * 3037000499 := sq_mono (by omega)
      refine pw_if_gt (tgt := 42) d_MO_root_33 (by decide) (fun h5 => ?_) (fun h5 => ?_)
      · rw [lg_gt, pk_lLT (by omega) (by omega)] at h5
        refine pw_lload d_MO_root_42 rfl ?_
        refine pw_lconst 1 d_MO_root_44 (by decide) ?_
        refine pw_lsub d_MO_root_45 ?_
        rw [show (1 : Int64) = lN 1 from rfl, lN_sub (by omega)]
        refine pw_lstore d_MO_root_46 (by decide) ?_
        dsimp only [stL, kil, isL, cat]
        refine pw_goto (tgt := 7) d_MO_root_48 (by decide) ?_
        refine ih lo (m - 1) (by omega) (by omega) (by omega) h3 ?_ _
        rw [show m - 1 + 1 = m by omega]
        exact h5
      · rw [lg_gt, pk_lLT (by omega) (by omega)] at h5
        refine pw_lload d_MO_root_36 rfl ?_
        refine pw_lstore_n d_MO_root_38 (by decide) ?_
        dsimp only [stL, kil, isL, cat]
        refine pw_goto (tgt := 48) d_MO_root_39 (by decide) ?_
        refine pw_goto (tgt := 7) d_MO_root_48 (by decide) ?_
        exact ih m hi (by omega) (by omega) (by omega) (by omega) h4 _
theorem mo_root (a : Nat) (ha : a < 2 ^ 63) : PM G l m_MO_root [vL (lN a)] M (rL (lN (isq a))) M 0 0 := by
  refine pm_in [some (vL (lN a)), none, none, none, none, none, none, none] rfl ?_
  refine pw_lconst 0 d_MO_root_0 (by decide) ?_
  refine pw_lstore_n d_MO_root_1 (by decide) ?_
  dsimp only [stL, kil, isL, cat]
  refine pw_ldc2 (3037000499) d_MO_root_2 g1023 ?_
  refine pw_lstore d_MO_root_5 (by decide) ?_
  dsimp only [stL, kil, isL, cat]
  exact lp_mroot a ha 3037000499 0 3037000499 (by omega) (by omega) (by omega) (by omega) (by omega) none
/-- bits from the top: what is found so far is right but for the bits below -/
theorem lp_croot (a : Nat) (ha : a < 2 ^ 62) : ∀ n, n ≤ 31 → ∀ f, f * f ≤ a → a < (f + 2 ^ n) * (f + 2 ^ n) → f + 2 ^ n ≤ 2 ^ 31 → ∀ x : Option PV, PW G l m_TK_root 6 [some (vL (lN a)), none, some (vL (lN f)), none, some (vI (nI n - 1)), x, none] [] M (rL (lN (isq a))) M 0 0 := by
  intro n
  induction n with
  | zero =>
    intro hn f h1 h2 h3 x
    refine pw_iload d_TK_root_6 rfl ?_
    refine pw_if_lt (tgt := 38) d_TK_root_8 (by decide) (fun _ => ?_) (fun h => absurd ((by decide)) h)
    refine pw_lload_n d_TK_root_38 rfl ?_
    refine pw_lreturn d_TK_root_39 rfl ?_ ?_
    · rw [isq_uniq h1 h2]
    · rfl
  | succ n ih =>
    intro hn f h1 h2 h3 x
    rw [nI_pred]
    have hp : 2 ^ n ≤ 2 ^ 30 := Nat.pow_le_pow_right (by decide) (by omega)
    have hp0 : 0 < 2 ^ n := Nat.two_pow_pos n
    have hp2 : 2 ^ (n + 1) = 2 ^ n + 2 ^ n := by rw [Nat.pow_succ]; omega
    refine pw_iload d_TK_root_6 rfl ?_
    refine pw_if_lt (tgt := 38) d_TK_root_8 (by decide) (fun h => absurd h (nI_pos (by omega))) (fun _ => ?_)
    refine pw_lload_n d_TK_root_11 rfl ?_
    refine pw_lconst 1 d_TK_root_12 (by decide) ?_
    refine pw_iload d_TK_root_13 rfl ?_
    refine pw_lshl d_TK_root_15 ?_
    rw [show (1 : Int64) <<< ((nI n).toInt64 &&& 63) = lN (2 ^ n) from ?_]
    · refine pw_ladd d_TK_root_16 ?_
      rw [lN_add]
      refine pw_lstore d_TK_root_17 (by decide) ?_
      dsimp only [stL, kil, isL, cat]
      refine pw_lload d_TK_root_19 rfl ?_
      refine pw_lload d_TK_root_21 rfl ?_
      refine pw_lmul d_TK_root_23 ?_
      rw [lN_mul]
      refine pw_lload_n d_TK_root_24 rfl ?_
      refine pw_lcmp d_TK_root_25 ?_
      have hmm : (f + 2 ^ n) * (f + 2 ^ n) ≤ 2 ^ 31 * 2 ^ 31 := sq_mono (by omega)
      refine pw_if_gt (tgt := 32) d_TK_root_26 (by decide) (fun h5 => ?_) (fun h5 => ?_)
      · rw [lg_gt, pk_lLT (by omega) (by omega)] at h5
        refine pw_iinc (-1) d_TK_root_32 rfl (by decide) (by decide) ?_
        dsimp only [stL, kil, isL, cat]
        refine pw_goto (tgt := 6) d_TK_root_35 (by decide) ?_
        rw [i32_m1]
        exact ih (by omega) f h1 h5 (by omega) _
      · rw [lg_gt, pk_lLT (by omega) (by omega)] at h5
        refine pw_lload d_TK_root_29 rfl ?_
        refine pw_lstore_n d_TK_root_31 (by decide) ?_
        dsimp only [stL, kil, isL, cat]
        refine pw_iinc (-1) d_TK_root_32 rfl (by decide) (by decide) ?_
        dsimp only [stL, kil, isL, cat]
        refine pw_goto (tgt := 6) d_TK_root_35 (by decide) ?_
        rw [i32_m1]
        refine ih (by omega) (f + 2 ^ n) (by omega) ?_ (by omega) _
        rw [show f + 2 ^ n + 2 ^ n = f + 2 ^ (n + 1) by omega]
        exact h2
    · have : ∀ n, n < 31 → (1 : Int64) <<< ((nI n).toInt64 &&& 63) = lN (2 ^ n) := by decide +kernel
      exact this n (by omega)
theorem pm_root (a : Nat) (ha : a < 2 ^ 62) : PM G l m_TK_root [vL (lN a)] M (rL (lN (isq a))) M 0 0 := by
  refine pm_in [some (vL (lN a)), none, none, none, none, none, none] rfl ?_
  refine pw_lconst 0 d_TK_root_0 (by decide) ?_
  refine pw_lstore_n d_TK_root_1 (by decide) ?_
  dsimp only [stL, kil, isL, cat]
  refine pw_bipush (30) d_TK_root_2 (by decide) ?_
  refine pw_istore d_TK_root_4 (by decide) ?_
  dsimp only [stL, kil, isL, cat]
  exact lp_croot a ha 31 (by omega) 0 (by omega) (by omega) (by omega) none
end RT
