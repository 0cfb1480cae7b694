/-! the row: what it holds, and what is read of it -/
abbrev VV : Type := (Nat → Int32) × (Nat → Int64) × (Nat → Int64) × (Nat → Int64)
abbrev sV (V : VV) : Nat → Int32 := V.1
abbrev oV (V : VV) : Nat → Int64 := V.2.1
abbrev dV (V : VV) : Nat → Int64 := V.2.2.1
abbrev jV (V : VV) : Nat → Int64 := V.2.2.2
abbrev RWK : KK := (0, 8)
def RowL (V : VV) (M : Mem) (ns : List Nat) : Prop := M.1 RWK 5 = nI ns.length ∧ ns.length ≤ 8 ∧ ∀ i x, ns[i]? = some x → M.1 (0, 9) i = nI x ∧ M.1 (0, 10) i = sV V x ∧ M.2.1 (0, 11) i = oV V x ∧ M.2.1 (0, 12) i = dV V x ∧ M.2.1 (0, 13) i = jV V x
theorem get_lt {l : List Nat} {i : Nat} (h : i < l.length) : ∃ x, l[i]? = some x := ⟨l[i], List.getElem?_eq_getElem h⟩
theorem get_ltI {l : List Nat} {i x : Nat} (h : l[i]? = some x) : i < l.length := (List.getElem?_eq_some_iff.mp h).1
theorem get_mem {l : List Nat} {i x : Nat} (h : l[i]? = some x) : x ∈ l := List.mem_of_getElem? h
theorem fold_take {α : Type} {f : α → Nat → α} {a : α} {l : List Nat} {i x : Nat} (h : l[i]? = some x) : (l.take (i + 1)).foldl f a = f ((l.take i).foldl f a) x := by
  rw [List.take_add_one, h, List.foldl_append]
  rfl
theorem cnt_take {f : Nat → Bool} {l : List Nat} {i x : Nat} (h : l[i]? = some x) : (l.take (i + 1)).countP f = (l.take i).countP f + (if f x then 1 else 0) := by
  rw [List.take_add_one, h, List.countP_append]
  cases hf : f x <;> simp [hf]
theorem cnt_le {f : Nat → Bool} {l : List Nat} {i : Nat} : (l.take i).countP f ≤ l.length := Nat.le_trans (List.countP_le_length) (by rw [List.length_take]; omega)
/-- a list as a set of bits -/
def msk (l : List Nat) : Nat := l.foldl (fun m p => m ||| 2 ^ p) 0
theorem or_bit : ∀ m, m < 256 → ∀ x, x < 8 → nI m ||| ((1 : Int32) <<< (nI x &&& 31)) = nI (m ||| 2 ^ x) ∧ m ||| 2 ^ x < 256 := by decide +kernel
theorem msk_lt' : ∀ (l : List Nat) (m : Nat), m < 256 → (∀ x ∈ l, x < 8) → l.foldl (fun m p => m ||| 2 ^ p) m < 256
  | [], m, hm, _ => hm
  | x :: l, m, hm, h => msk_lt' l (m ||| 2 ^ x) (or_bit m hm x (h x List.mem_cons_self)).2 (fun y hy => h y (List.mem_cons_of_mem _ hy))
theorem msk_lt {l : List Nat} (h : ∀ x ∈ l, x < 8) : msk l < 256 := msk_lt' l 0 (by omega) h
def inI (V : VV) (e : Int64) (x : Nat) : Bool := decide (¬ e < oV V x - dV V x) && decide (¬ oV V x + dV V x < e)
def inO (V : VV) (lo hi : Int64) (x : Nat) : Bool := decide (¬ oV V x < lo) && decide (¬ hi < oV V x)
def rkV (V : VV) (x : Nat) : Int64 := (sV V x).toInt64 * 6442450944 + dV V x
def sqs (V : VV) (b : Int64) (l : List Nat) : Int64 := l.foldl (fun s y => s + sqL (oV V y - b)) 0
def spA (V : VV) (l : List Nat) (x : Nat) : Int64 := if l.length - 1 = 0 then 0 else 4096 * rtL (sqs V (oV V x) l / lN (l.length - 1))
def wt (V : VV) (x : Nat) : Int64 := 70368744177664 / dV V x
def mnS (V : VV) (l : List Nat) : Int64 := l.foldl (fun s x => s + flr (oV V x) 4096 * wt V x) 0
def mnW (V : VV) (l : List Nat) : Int64 := l.foldl (fun s x => s + wt V x) 0
def mnO (V : VV) (l : List Nat) : Int64 := flr (mnS V l) (mnW V l) * 4096
/-- the last place of the greatest -/
def wst (f : Nat → Int64) : Nat → Nat
  | 0 => 0
  | k + 1 => if f k < f (wst f k) then wst f k else k
theorem wst_lt (f : Nat → Int64) : ∀ k, 0 < k → wst f k < k
  | 0, h => by omega
  | 1, _ => by rw [wst, wst]; split <;> omega
  | k + 2, _ => by
    have := wst_lt f (k + 1) (by omega)
    rw [wst]
    split <;> omega
def atL (l : List Nat) (i : Nat) : Nat := l[i]?.getD 0
theorem atL_of {l : List Nat} {i x : Nat} (h : l[i]? = some x) : atL l i = x := by unfold atL; rw [h]; rfl
theorem atL_get {l : List Nat} {i : Nat} (h : i < l.length) : l[i]? = some (atL l i) := by
  obtain ⟨x, hx⟩ := get_lt h
  rw [atL_of hx]
  exact hx
def ljN (V : VV) (l : List Nat) : Nat → Int64
  | 0 => jV V (atL l 0)
  | k + 1 => if jV V (atL l (k + 1)) < ljN V l k then jV V (atL l (k + 1)) else ljN V l k
section RW1
variable {G : GG} {l : Launch} {M : Mem} {V : VV} {ns : List Nat}
theorem lp_bits (hM : M.2.2.1 = rf) (hR : RowL V M ns) (h8 : ∀ x ∈ ns, x < 8) : ∀ i, i ≤ ns.length → PW G l m_RW_bits 4 [some (vR (some RWK)), some (vI (nI (msk (ns.take i)))), some (vI (nI i))] [] M (rI (nI (msk ns))) M 0 0 := by
  obtain ⟨h1, h2, h3⟩ := hR
  refine lpU ?_ ?_
  · rw [List.take_length]
    refine pw_iload_n d_RW_bits_4 rfl ?_
    refine pw_aload_n d_RW_bits_5 rfl ?_
    refine pw_getI d_RW_bits_6 f_RW_28 rfl rfl ?_
    rw [h1]
    refine pw_icmp_ge (tgt := 29) d_RW_bits_9 (by decide) (fun _ => ?_) (fun hQ => absurd (nI_le (Nat.le_refl _) (by omega)) hQ)
    refine pw_iload_n d_RW_bits_29 rfl ?_
    refine pw_ireturn d_RW_bits_30 rfl ?_ ?_
    · rfl
    · rfl
  · intro i hi ih
    obtain ⟨x, hx⟩ := get_lt hi
    obtain ⟨g1, g2, g3, g4, g5⟩ := h3 i x hx
    refine pw_iload_n d_RW_bits_4 rfl ?_
    refine pw_aload_n d_RW_bits_5 rfl ?_
    refine pw_getI d_RW_bits_6 f_RW_28 rfl rfl ?_
    rw [h1]
    refine pw_icmp_ge (tgt := 29) d_RW_bits_9 (by decide) (fun hQ => absurd hQ (nI_ge hi (by omega))) (fun _ => ?_)
    refine pw_iload_n d_RW_bits_12 rfl ?_
    refine pw_iconst 1 d_RW_bits_13 (by decide) ?_
    refine pw_aload_n d_RW_bits_14 rfl ?_
    refine pw_getR d_RW_bits_15 f_RW_9 rfl rfl (rfO hM rfl) ?_
    refine pw_iload_n d_RW_bits_18 rfl ?_
    refine pw_iaN (n := i) d_RW_bits_19 rfl (by omega) (by decide) ?_
    rw [g1]
    refine pw_ishl d_RW_bits_20 ?_
    refine pw_ior d_RW_bits_21 ?_
    have hm : msk (ns.take i) < 256 := msk_lt (fun y hy => h8 y (List.mem_of_mem_take hy))
    rw [(or_bit _ hm x (h8 x (get_mem hx))).1]
    refine pw_istore_n d_RW_bits_22 (by decide) ?_
    dsimp only [stL, kil, isL, cat]
    refine pw_iinc (1) d_RW_bits_23 rfl (by decide) (by decide) ?_
    dsimp only [stL, kil, isL, cat]
    refine pw_goto (tgt := 4) d_RW_bits_26 (by decide) ?_
    rw [nI_1]
    unfold msk at ih
    rw [fold_take hx] at ih
    exact ih
theorem pm_bits (hM : M.2.2.1 = rf) (hR : RowL V M ns) (h8 : ∀ x ∈ ns, x < 8) : PM G l m_RW_bits [vR (some RWK)] M (rI (nI (msk ns))) M 0 0 := by
  refine pm_in [some (vR (some RWK)), none, none] rfl ?_
  refine pw_iconst 0 d_RW_bits_0 (by decide) ?_
  refine pw_istore_n d_RW_bits_1 (by decide) ?_
  dsimp only [stL, kil, isL, cat]
  refine pw_iconst 0 d_RW_bits_2 (by decide) ?_
  refine pw_istore_n d_RW_bits_3 (by decide) ?_
  dsimp only [stL, kil, isL, cat]
  exact lp_bits hM hR h8 0 (by omega)
theorem pm_lower (hM : M.2.2.1 = rf) (hR : RowL V M ns) {i x : Nat} (hx : ns[i]? = some x) : PM G l m_RW_lower [vR (some RWK), vI (nI i)] M (rL (oV V x - dV V x)) M 0 0 := by
  obtain ⟨h1, h2, h3⟩ := hR
  obtain ⟨g1, g2, g3, g4, g5⟩ := h3 i x hx
  have hi := get_ltI hx
  refine pm_in [some (vR (some RWK)), some (vI (nI i))] rfl ?_
  refine pw_aload_n d_RW_lower_0 rfl ?_
  refine pw_getR d_RW_lower_1 f_RW_18 rfl rfl (rfO hM rfl) ?_
  refine pw_iload_n d_RW_lower_4 rfl ?_
  refine pw_laN (n := i) d_RW_lower_5 rfl (by omega) (by decide) ?_
  rw [g3]
  refine pw_aload_n d_RW_lower_6 rfl ?_
  refine pw_getR d_RW_lower_7 f_RW_22 rfl rfl (rfO hM rfl) ?_
  refine pw_iload_n d_RW_lower_10 rfl ?_
  refine pw_laN (n := i) d_RW_lower_11 rfl (by omega) (by decide) ?_
  rw [g4]
  refine pw_lsub d_RW_lower_12 ?_
  refine pw_lreturn d_RW_lower_13 rfl ?_ ?_
  · rfl
  · rfl
theorem pm_upper (hM : M.2.2.1 = rf) (hR : RowL V M ns) {i x : Nat} (hx : ns[i]? = some x) : PM G l m_RW_upper [vR (some RWK), vI (nI i)] M (rL (oV V x + dV V x)) M 0 0 := by
  obtain ⟨h1, h2, h3⟩ := hR
  obtain ⟨g1, g2, g3, g4, g5⟩ := h3 i x hx
  have hi := get_ltI hx
  refine pm_in [some (vR (some RWK)), some (vI (nI i))] rfl ?_
  refine pw_aload_n d_RW_upper_0 rfl ?_
  refine pw_getR d_RW_upper_1 f_RW_18 rfl rfl (rfO hM rfl) ?_
  refine pw_iload_n d_RW_upper_4 rfl ?_
  refine pw_laN (n := i) d_RW_upper_5 rfl (by omega) (by decide) ?_
  rw [g3]
  refine pw_aload_n d_RW_upper_6 rfl ?_
  refine pw_getR d_RW_upper_7 f_RW_22 rfl rfl (rfO hM rfl) ?_
  refine pw_iload_n d_RW_upper_10 rfl ?_
  refine pw_laN (n := i) d_RW_upper_11 rfl (by omega) (by decide) ?_
  rw [g4]
  refine pw_ladd d_RW_upper_12 ?_
  refine pw_lreturn d_RW_upper_13 rfl ?_ ?_
  · rfl
  · rfl
theorem pm_rank (hM : M.2.2.1 = rf) (hR : RowL V M ns) {i x : Nat} (hx : ns[i]? = some x) : PM G l m_RW_rank [vR (some RWK), vI (nI i)] M (rL (rkV V x)) M 0 0 := by
  obtain ⟨h1, h2, h3⟩ := hR
  obtain ⟨g1, g2, g3, g4, g5⟩ := h3 i x hx
  have hi := get_ltI hx
  refine pm_in [some (vR (some RWK)), some (vI (nI i))] rfl ?_
  refine pw_aload_n d_RW_rank_0 rfl ?_
  refine pw_getR d_RW_rank_1 f_RW_15 rfl rfl (rfO hM rfl) ?_
  refine pw_iload_n d_RW_rank_4 rfl ?_
  refine pw_iaN (n := i) d_RW_rank_5 rfl (by omega) (by decide) ?_
  rw [g2]
  refine pw_i2l d_RW_rank_6 ?_
  refine pw_ldc2 (6442450944) d_RW_rank_7 g562 ?_
  refine pw_lmul d_RW_rank_10 ?_
  refine pw_aload_n d_RW_rank_11 rfl ?_
  refine pw_getR d_RW_rank_12 f_RW_22 rfl rfl (rfO hM rfl) ?_
  refine pw_iload_n d_RW_rank_15 rfl ?_
  refine pw_laN (n := i) d_RW_rank_16 rfl (by omega) (by decide) ?_
  rw [g4]
  refine pw_ladd d_RW_rank_17 ?_
  refine pw_lreturn d_RW_rank_18 rfl ?_ ?_
  · rfl
  · rfl
theorem lp_around (hM : M.2.2.1 = rf) (hR : RowL V M ns) (e : Int64) : ∀ i, i ≤ ns.length → PW G l m_RW_intervalsAround 5 [some (vR (some RWK)), some (vL e), none, some (vI (nI ((ns.take i).countP (inI V e)))), some (vI (nI i))] [] M (rI (nI (ns.countP (inI V e)))) M 0 0 := by
  have hR' := hR
  obtain ⟨h1, h2, h3⟩ := hR
  refine lpU ?_ ?_
  · rw [List.take_length]
    refine pw_iload d_RW_intervalsAround_5 rfl ?_
    refine pw_aload_n d_RW_intervalsAround_7 rfl ?_
    refine pw_getI d_RW_intervalsAround_8 f_RW_28 rfl rfl ?_
    rw [h1]
    refine pw_icmp_ge (tgt := 45) d_RW_intervalsAround_11 (by decide) (fun _ => ?_) (fun hQ => absurd (nI_le (Nat.le_refl _) (by omega)) hQ)
    refine pw_iload_n d_RW_intervalsAround_45 rfl ?_
    refine pw_ireturn d_RW_intervalsAround_46 rfl ?_ ?_
    · rfl
    · rfl
  · intro i hi ih
    obtain ⟨x, hx⟩ := get_lt hi
    rw [cnt_take hx] at ih
    refine pw_iload d_RW_intervalsAround_5 rfl ?_
    refine pw_aload_n d_RW_intervalsAround_7 rfl ?_
    refine pw_getI d_RW_intervalsAround_8 f_RW_28 rfl rfl ?_
    rw [h1]
    refine pw_icmp_ge (tgt := 45) d_RW_intervalsAround_11 (by decide) (fun hQ => absurd hQ (nI_ge hi (by omega))) (fun _ => ?_)
    refine pw_aload_n d_RW_intervalsAround_14 rfl ?_
    refine pw_iload d_RW_intervalsAround_15 rfl ?_
    refine c_RW_intervalsAround_17 rfl (Nat.le_of_ble_eq_true rfl) (pm_lower hM hR' hx) ?_
    refine pw_lload_n d_RW_intervalsAround_20 rfl ?_
    refine pw_lcmp d_RW_intervalsAround_21 ?_
    refine pw_if_gt (tgt := 39) d_RW_intervalsAround_22 (by decide) (fun h22 => ?_) (fun h22 => ?_)
    · refine pw_iinc (1) d_RW_intervalsAround_39 rfl (by decide) (by decide) ?_
      dsimp only [stL, kil, isL, cat]
      refine pw_goto (tgt := 5) d_RW_intervalsAround_42 (by decide) ?_
      simp only [lg_gt] at h22
      rw [nI_1]
      first | (rw [nI_1, if_pos (by unfold inI; simp only [h22, not_false_eq_true, decide_true, Bool.and_self])] at *; exact ih) | (rw [if_neg (by unfold inI; simp only [h22, not_true_eq_false, decide_false, Bool.and_false, Bool.false_and]; exact Bool.noConfusion)] at ih; exact ih)
    · refine pw_lload_n d_RW_intervalsAround_25 rfl ?_
      refine pw_aload_n d_RW_intervalsAround_26 rfl ?_
      refine pw_iload d_RW_intervalsAround_27 rfl ?_
      refine c_RW_intervalsAround_29 rfl (Nat.le_of_ble_eq_true rfl) (pm_upper hM hR' hx) ?_
      refine pw_lcmp d_RW_intervalsAround_32 ?_
      refine pw_if_gt (tgt := 39) d_RW_intervalsAround_33 (by decide) (fun h33 => ?_) (fun h33 => ?_)
      · refine pw_iinc (1) d_RW_intervalsAround_39 rfl (by decide) (by decide) ?_
        dsimp only [stL, kil, isL, cat]
        refine pw_goto (tgt := 5) d_RW_intervalsAround_42 (by decide) ?_
        simp only [lg_gt] at h22 h33
        rw [nI_1]
        first | (rw [nI_1, if_pos (by unfold inI; simp only [h22, h33, not_false_eq_true, decide_true, Bool.and_self])] at *; exact ih) | (rw [if_neg (by unfold inI; simp only [h22, h33, not_true_eq_false, decide_false, Bool.and_false, Bool.false_and]; exact Bool.noConfusion)] at ih; exact ih)
      · refine pw_iinc (1) d_RW_intervalsAround_36 rfl (by decide) (by decide) ?_
        dsimp only [stL, kil, isL, cat]
        refine pw_iinc (1) d_RW_intervalsAround_39 rfl (by decide) (by decide) ?_
        dsimp only [stL, kil, isL, cat]
        refine pw_goto (tgt := 5) d_RW_intervalsAround_42 (by decide) ?_
        simp only [lg_gt] at h22 h33
        rw [nI_1]
        first | (rw [nI_1, if_pos (by unfold inI; simp only [h22, h33, not_false_eq_true, decide_true, Bool.and_self])] at *; exact ih) | (rw [if_neg (by unfold inI; simp only [h22, h33, not_true_eq_false, decide_false, Bool.and_false, Bool.false_and]; exact Bool.noConfusion)] at ih; exact ih)
theorem pm_around (hM : M.2.2.1 = rf) (hR : RowL V M ns) (e : Int64) : PM G l m_RW_intervalsAround [vR (some RWK), vL e] M (rI (nI (ns.countP (inI V e)))) M 0 0 := by
  refine pm_in [some (vR (some RWK)), some (vL e), none, none, none] rfl ?_
  refine pw_iconst 0 d_RW_intervalsAround_0 (by decide) ?_
  refine pw_istore_n d_RW_intervalsAround_1 (by decide) ?_
  dsimp only [stL, kil, isL, cat]
  refine pw_iconst 0 d_RW_intervalsAround_2 (by decide) ?_
  refine pw_istore d_RW_intervalsAround_3 (by decide) ?_
  dsimp only [stL, kil, isL, cat]
  exact lp_around hM hR e 0 (by omega)
theorem lp_within (hM : M.2.2.1 = rf) (hR : RowL V M ns) (lo hi' : Int64) : ∀ i, i ≤ ns.length → PW G l m_RW_offsetsWithin 6 [some (vR (some RWK)), some (vL lo), none, some (vL hi'), none, some (vI (nI ((ns.take i).countP (inO V lo hi')))), some (vI (nI i))] [] M (rI (nI (ns.countP (inO V lo hi')))) M 0 0 := by
  have hR' := hR
  obtain ⟨h1, h2, h3⟩ := hR
  refine lpU ?_ ?_
  · rw [List.take_length]
    refine pw_iload d_RW_offsetsWithin_6 rfl ?_
    refine pw_aload_n d_RW_offsetsWithin_8 rfl ?_
    refine pw_getI d_RW_offsetsWithin_9 f_RW_28 rfl rfl ?_
    rw [h1]
    refine pw_icmp_ge (tgt := 48) d_RW_offsetsWithin_12 (by decide) (fun _ => ?_) (fun hQ => absurd (nI_le (Nat.le_refl _) (by omega)) hQ)
    refine pw_iload d_RW_offsetsWithin_48 rfl ?_
    refine pw_ireturn d_RW_offsetsWithin_50 rfl ?_ ?_
    · rfl
    · rfl
  · intro i hi ih
    obtain ⟨x, hx⟩ := get_lt hi
    obtain ⟨g1, g2, g3, g4, g5⟩ := h3 i x hx
    rw [cnt_take hx] at ih
    refine pw_iload d_RW_offsetsWithin_6 rfl ?_
    refine pw_aload_n d_RW_offsetsWithin_8 rfl ?_
    refine pw_getI d_RW_offsetsWithin_9 f_RW_28 rfl rfl ?_
    rw [h1]
    refine pw_icmp_ge (tgt := 48) d_RW_offsetsWithin_12 (by decide) (fun hQ => absurd hQ (nI_ge hi (by omega))) (fun _ => ?_)
    refine pw_lload_n d_RW_offsetsWithin_15 rfl ?_
    refine pw_aload_n d_RW_offsetsWithin_16 rfl ?_
    refine pw_getR d_RW_offsetsWithin_17 f_RW_18 rfl rfl (rfO hM rfl) ?_
    refine pw_iload d_RW_offsetsWithin_20 rfl ?_
    refine pw_laN (n := i) d_RW_offsetsWithin_22 rfl (by omega) (by decide) ?_
    rw [g3]
    refine pw_lcmp d_RW_offsetsWithin_23 ?_
    refine pw_if_gt (tgt := 42) d_RW_offsetsWithin_24 (by decide) (fun h24 => ?_) (fun h24 => ?_)
    · refine pw_iinc (1) d_RW_offsetsWithin_42 rfl (by decide) (by decide) ?_
      dsimp only [stL, kil, isL, cat]
      refine pw_goto (tgt := 6) d_RW_offsetsWithin_45 (by decide) ?_
      simp only [lg_gt] at h24
      rw [nI_1]
      first | (rw [nI_1, if_pos (by unfold inO; simp only [h24, not_false_eq_true, decide_true, Bool.and_self])] at *; exact ih) | (rw [if_neg (by unfold inO; simp only [h24, not_true_eq_false, decide_false, Bool.and_false, Bool.false_and]; exact Bool.noConfusion)] at ih; exact ih)
    · refine pw_aload_n d_RW_offsetsWithin_27 rfl ?_
      refine pw_getR d_RW_offsetsWithin_28 f_RW_18 rfl rfl (rfO hM rfl) ?_
      refine pw_iload d_RW_offsetsWithin_31 rfl ?_
      refine pw_laN (n := i) d_RW_offsetsWithin_33 rfl (by omega) (by decide) ?_
      rw [g3]
      refine pw_lload_n d_RW_offsetsWithin_34 rfl ?_
      refine pw_lcmp d_RW_offsetsWithin_35 ?_
      refine pw_if_gt (tgt := 42) d_RW_offsetsWithin_36 (by decide) (fun h36 => ?_) (fun h36 => ?_)
      · refine pw_iinc (1) d_RW_offsetsWithin_42 rfl (by decide) (by decide) ?_
        dsimp only [stL, kil, isL, cat]
        refine pw_goto (tgt := 6) d_RW_offsetsWithin_45 (by decide) ?_
        simp only [lg_gt] at h24 h36
        rw [nI_1]
        first | (rw [nI_1, if_pos (by unfold inO; simp only [h24, h36, not_false_eq_true, decide_true, Bool.and_self])] at *; exact ih) | (rw [if_neg (by unfold inO; simp only [h24, h36, not_true_eq_false, decide_false, Bool.and_false, Bool.false_and]; exact Bool.noConfusion)] at ih; exact ih)
      · refine pw_iinc (1) d_RW_offsetsWithin_39 rfl (by decide) (by decide) ?_
        dsimp only [stL, kil, isL, cat]
        refine pw_iinc (1) d_RW_offsetsWithin_42 rfl (by decide) (by decide) ?_
        dsimp only [stL, kil, isL, cat]
        refine pw_goto (tgt := 6) d_RW_offsetsWithin_45 (by decide) ?_
        simp only [lg_gt] at h24 h36
        rw [nI_1]
        first | (rw [nI_1, if_pos (by unfold inO; simp only [h24, h36, not_false_eq_true, decide_true, Bool.and_self])] at *; exact ih) | (rw [if_neg (by unfold inO; simp only [h24, h36, not_true_eq_false, decide_false, Bool.and_false, Bool.false_and]; exact Bool.noConfusion)] at ih; exact ih)
theorem pm_within (hM : M.2.2.1 = rf) (hR : RowL V M ns) (lo hi' : Int64) : PM G l m_RW_offsetsWithin [vR (some RWK), vL lo, vL hi'] M (rI (nI (ns.countP (inO V lo hi')))) M 0 0 := by
  refine pm_in [some (vR (some RWK)), some (vL lo), none, some (vL hi'), none, none, none] rfl ?_
  refine pw_iconst 0 d_RW_offsetsWithin_0 (by decide) ?_
  refine pw_istore d_RW_offsetsWithin_1 (by decide) ?_
  dsimp only [stL, kil, isL, cat]
  refine pw_iconst 0 d_RW_offsetsWithin_3 (by decide) ?_
  refine pw_istore d_RW_offsetsWithin_4 (by decide) ?_
  dsimp only [stL, kil, isL, cat]
  exact lp_within hM hR lo hi' 0 (by omega)
end RW1
