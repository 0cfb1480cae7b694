/-! a reply is taken in, on both sides -/
/-- the arrays of the reference's samples -/
def ma (M : Mem) (a b d : Nat → Int64) (t : Nat → Int32) : Mem := (fun q j => if q = (0, 34) then t j else M.1 q j, fun q j => if q = (0, 31) then a j else if q = (0, 32) then b j else if q = (0, 33) then d j else M.2.1 q j, M.2.2)
section MA1
variable {M : Mem} {a b d : Nat → Int64} {t : Nat → Int32} {j : Nat} {x : Int64} {y : Int32}
theorem ma_self : ma M (M.2.1 (0, 31)) (M.2.1 (0, 32)) (M.2.1 (0, 33)) (M.1 (0, 34)) = M := by
  unfold ma
  refine Prod.ext ?_ (Prod.ext ?_ rfl)
  · funext q j
    show ite _ _ _ = _
    by_cases h : q = (0, 34)
    · rw [if_pos h, h]
    · rw [if_neg h]
  · funext q j
    show ite _ _ (ite _ _ (ite _ _ _)) = _
    by_cases h : q = (0, 31)
    · rw [if_pos h, h]
    · rw [if_neg h]
      by_cases h2 : q = (0, 32)
      · rw [if_pos h2, h2]
      · rw [if_neg h2]
        by_cases h3 : q = (0, 33)
        · rw [if_pos h3, h3]
        · rw [if_neg h3]
theorem ma_1 : (ma M a b d t).2.1 (0, 31) = a := by funext j; simp [ma]
theorem ma_2 : (ma M a b d t).2.1 (0, 32) = b := by funext j; simp [ma]
theorem ma_3 : (ma M a b d t).2.1 (0, 33) = d := by funext j; simp [ma]
theorem ma_4 : (ma M a b d t).1 (0, 34) = t := by funext j; simp [ma]
theorem sL_ma1 : sL (ma M a b d t) (0, 31) j x = ma M (up a j x) b d t := by
  unfold sL ma up
  refine Prod.ext rfl (Prod.ext ?_ rfl)
  funext q i
  show ite _ _ (ite _ _ _) = ite _ (ite _ _ _) _
  by_cases h : q = (0, 31)
  · by_cases h2 : i = j <;> simp [h, h2]
  · simp [h]
theorem sL_ma2 : sL (ma M a b d t) (0, 32) j x = ma M a (up b j x) d t := by
  unfold sL ma up
  refine Prod.ext rfl (Prod.ext ?_ rfl)
  funext q i
  show ite _ _ (ite _ _ (ite _ _ _)) = ite _ _ (ite _ (ite _ _ _) _)
  by_cases h : q = (0, 32)
  · by_cases h2 : i = j <;> simp [h, h2]
  · simp [h]
theorem sL_ma3 : sL (ma M a b d t) (0, 33) j x = ma M a b (up d j x) t := by
  unfold sL ma up
  refine Prod.ext rfl (Prod.ext ?_ rfl)
  funext q i
  show ite _ _ (ite _ _ (ite _ _ (ite _ _ _))) = ite _ _ (ite _ _ (ite _ (ite _ _ _) _))
  by_cases h : q = (0, 33)
  · by_cases h2 : i = j <;> simp [h, h2]
  · simp [h]
theorem sI_ma4 : sI (ma M a b d t) (0, 34) j y = ma M a b d (up t j y) := by
  unfold sI ma up
  refine Prod.ext ?_ rfl
  funext q i
  show ite _ _ (ite _ _ _) = ite _ (ite _ _ _) _
  by_cases h : q = (0, 34)
  · by_cases h2 : i = j <;> simp [h, h2]
  · simp [h]
end MA1

theorem sI_sI {M : Mem} {k : KK} {j : Nat} {x y : Int32} : sI (sI M k j x) k j y = sI M k j y := by
  unfold sI
  refine Prod.ext ?_ rfl
  funext q i
  show ite _ _ (ite _ _ _) = ite _ _ _
  by_cases h : q = k ∧ i = j
  · rw [if_pos h, if_pos h]
  · rw [if_neg h, if_neg h, if_neg h]
theorem sI_self {M : Mem} {k : KK} {j : Nat} : sI M k j (M.1 k j) = M := by
  unfold sI
  refine Prod.ext ?_ rfl
  funext q i
  show ite _ _ _ = _
  by_cases h : q = k ∧ i = j
  · rw [if_pos h, h.1, h.2]
  · rw [if_neg h]
/-- the samples of a peer moved down, as far as k -/
def dn {α : Type} (f : Nat → α) (p k : Nat) : Nat → α := fun j => if 8 * p ≤ j ∧ j + 1 < 8 * p + k then f (j + 1) else f j
theorem dn_1 {α : Type} (f : Nat → α) (p : Nat) : dn f p 1 = f := by
  funext j
  unfold dn
  rw [if_neg (by omega)]
theorem dn_step {α : Type} (f : Nat → α) (p k : Nat) (hk : 1 ≤ k) : up (dn f p k) (8 * p + k - 1) (dn f p k (8 * p + k)) = dn f p (k + 1) := by
  funext j
  unfold up dn
  by_cases h : j = 8 * p + k - 1
  · rw [if_pos h, if_neg (by omega), if_pos (by omega), h, show 8 * p + k - 1 + 1 = 8 * p + k by omega]
  · rw [if_neg h]
    by_cases h2 : 8 * p ≤ j ∧ j + 1 < 8 * p + k
    · rw [if_pos h2, if_pos (by omega)]
    · rw [if_neg h2, if_neg (by omega)]
section TKE
variable {G : GG} {l : Launch} {M : Mem}
theorem mo_move (hM : M.2.2.1 = rf) (A B D : Nat → Int64) (T : Nat → Int32) (a b : Nat) (ha : a < 64) (hb : b < 64) : PM G l m_MO_move [vR (some MK), vI (nI a), vI (nI b)] (ma M A B D T) rV (ma M (up A b (A a)) (up B b (B a)) (up D b (D a)) (up T b (T a))) 0 0 := by
  have hr : ∀ a b d t, (ma M a b d t).2.2.1 = rf := fun _ _ _ _ => hM
  refine pm_in [some (vR (some MK)), some (vI (nI a)), some (vI (nI b))] rfl ?_
  refine pw_aload_n d_MO_move_0 rfl ?_
  refine pw_getR d_MO_move_1 f_MO_41 rfl rfl (rfO (hr _ _ _ _) rfl) ?_
  refine pw_iload_n d_MO_move_4 rfl ?_
  refine pw_aload_n d_MO_move_5 rfl ?_
  refine pw_getR d_MO_move_6 f_MO_41 rfl rfl (rfO (hr _ _ _ _) rfl) ?_
  refine pw_iload_n d_MO_move_9 rfl ?_
  refine pw_laN (n := a) d_MO_move_10 rfl (by omega) (by decide) ?_
  refine pw_lsN (n := b) d_MO_move_11 rfl (by omega) (by decide) ?_
  rw [ma_1, sL_ma1]
  refine pw_aload_n d_MO_move_12 rfl ?_
  refine pw_getR d_MO_move_13 f_MO_44 rfl rfl (rfO (hr _ _ _ _) rfl) ?_
  refine pw_iload_n d_MO_move_16 rfl ?_
  refine pw_aload_n d_MO_move_17 rfl ?_
  refine pw_getR d_MO_move_18 f_MO_44 rfl rfl (rfO (hr _ _ _ _) rfl) ?_
  refine pw_iload_n d_MO_move_21 rfl ?_
  refine pw_laN (n := a) d_MO_move_22 rfl (by omega) (by decide) ?_
  refine pw_lsN (n := b) d_MO_move_23 rfl (by omega) (by decide) ?_
  rw [ma_2, sL_ma2]
  refine pw_aload_n d_MO_move_24 rfl ?_
  refine pw_getR d_MO_move_25 f_MO_47 rfl rfl (rfO (hr _ _ _ _) rfl) ?_
  refine pw_iload_n d_MO_move_28 rfl ?_
  refine pw_aload_n d_MO_move_29 rfl ?_
  refine pw_getR d_MO_move_30 f_MO_47 rfl rfl (rfO (hr _ _ _ _) rfl) ?_
  refine pw_iload_n d_MO_move_33 rfl ?_
  refine pw_laN (n := a) d_MO_move_34 rfl (by omega) (by decide) ?_
  refine pw_lsN (n := b) d_MO_move_35 rfl (by omega) (by decide) ?_
  rw [ma_3, sL_ma3]
  refine pw_aload_n d_MO_move_36 rfl ?_
  refine pw_getR d_MO_move_37 f_MO_50 rfl rfl (rfO (hr _ _ _ _) rfl) ?_
  refine pw_iload_n d_MO_move_40 rfl ?_
  refine pw_aload_n d_MO_move_41 rfl ?_
  refine pw_getR d_MO_move_42 f_MO_50 rfl rfl (rfO (hr _ _ _ _) rfl) ?_
  refine pw_iload_n d_MO_move_45 rfl ?_
  refine pw_iaN (n := a) d_MO_move_46 rfl (by omega) (by decide) ?_
  refine pw_isN (n := b) d_MO_move_47 rfl (by omega) (by decide) ?_
  rw [ma_4, sI_ma4]
  refine pw_return d_MO_move_48 rfl ?_ ?_
  · rfl
  · rfl
/-- what the take leaves, but for the samples -/
def tkE (M : Mem) (p : Nat) (tr rd rp : Int64) (b1 r : Int32) : Mem := sI (sL (sL (sL (sI (sL M (0, 24) p tr) (0, 26) p b1) (0, 27) p (rd * 65536)) (0, 28) p (rp * 65536)) (0, 23) p 0) (0, 25) p (r / 2 * 2 + 1)
theorem lp_mtakeT (hM : M.2.2.1 = rf) (p cc : Nat) (hp : p < 8) (hcc : cc < 8) (A B D : Nat → Int64) (T : Nat → Int32) (x2 : Option PV) (h2 : isL x2 = false) : PW G l m_MO_take 51 [some (vR (some MK)), some (vI (nI p)), x2, none, none, none, none, none, none] [] (sI (ma M A B D T) (0, 29) p (nI cc)) rV
    (tkE (sI (ma M (up A (8 * p + cc) (oNw (rdN (M.1 (0, 21)) 32 8) (rdN (M.1 (0, 21)) 40 8) (M.2.1 (0, 23) p) (M.2.1 MK 5))) (up B (8 * p + cc) (clp (dNw (rdN (M.1 (0, 21)) 32 8) (rdN (M.1 (0, 21)) 40 8) (M.2.1 (0, 23) p) (M.2.1 MK 5)))) (up D (8 * p + cc) (16384 + clp (dNw (rdN (M.1 (0, 21)) 32 8) (rdN (M.1 (0, 21)) 40 8) (M.2.1 (0, 23) p) (M.2.1 MK 5)) / 65536)) (up T (8 * p + cc) (M.1 MK 6))) (0, 29) p (nI (cc + 1))) p (rdN (M.1 (0, 21)) 40 8) (rdN (M.1 (0, 21)) 4 4) (rdN (M.1 (0, 21)) 8 4) (M.1 (0, 21) 1) (M.1 (0, 25) p)) 0 0 := by
  have hr : ∀ (N : Mem) a b d t k j x, N.2.2.1 = rf → (sI (ma N a b d t) k j x).2.2.1 = rf := fun _ _ _ _ _ _ _ _ h => h
  have ht : ∀ a b d t x, (sI (ma M a b d t) (0, 29) p x).1 (0, 21) = M.1 (0, 21) := fun a b d t x => by funext j; simp [sI, ma]
  have hu : ∀ a b d t x, (sI (ma M a b d t) (0, 29) p x).1 MK 6 = M.1 MK 6 := fun a b d t x => by simp [sI, ma]
  have hc5 : ∀ a b d t x, (sI (ma M a b d t) (0, 29) p x).2.1 MK 5 = M.2.1 MK 5 := fun a b d t x => by simp [sI, ma]
  have hse : ∀ a b d t x, (sI (ma M a b d t) (0, 29) p x).2.1 (0, 23) p = M.2.1 (0, 23) p := fun a b d t x => by simp [sI, ma]
  have q1 : ∀ a b d t x j y, sL (sI (ma M a b d t) (0, 29) p x) (0, 31) j y = sI (ma M (up a j y) b d t) (0, 29) p x := fun a b d t x j y => by rw [← sL_ma1]; rfl
  have q2 : ∀ a b d t x j y, sL (sI (ma M a b d t) (0, 29) p x) (0, 32) j y = sI (ma M a (up b j y) d t) (0, 29) p x := fun a b d t x j y => by rw [← sL_ma2]; rfl
  have q3 : ∀ a b d t x j y, sL (sI (ma M a b d t) (0, 29) p x) (0, 33) j y = sI (ma M a b (up d j y) t) (0, 29) p x := fun a b d t x j y => by rw [← sL_ma3]; rfl
  have q4 : ∀ a b d t x j y, sI (sI (ma M a b d t) (0, 29) p x) (0, 34) j y = sI (ma M a b d (up t j y)) (0, 29) p x := fun a b d t x j y => by
    rw [← sI_ma4]
    unfold sI
    refine Prod.ext ?_ rfl
    funext q i
    show ite _ _ (ite _ _ _) = ite _ _ (ite _ _ _)
    by_cases h : q = (0, 34)
    · simp [h]
    · simp [h]
  -- the walk on from where the delay is clamped
  have hk : ∀ (y v3 v5 : Int64), y = clp (dNw (rdN (M.1 (0, 21)) 32 8) (rdN (M.1 (0, 21)) 40 8) (M.2.1 (0, 23) p) (M.2.1 MK 5)) → PW G l m_MO_take 134 [some (vR (some MK)), some (vI (nI p)), some (vI (nI (8 * p + cc))), some (vL v3), none, some (vL v5), none, some (vL y), none] [] (sI (ma M A B D T) (0, 29) p (nI cc)) rV
    (tkE (sI (ma M (up A (8 * p + cc) (oNw (rdN (M.1 (0, 21)) 32 8) (rdN (M.1 (0, 21)) 40 8) (M.2.1 (0, 23) p) (M.2.1 MK 5))) (up B (8 * p + cc) (clp (dNw (rdN (M.1 (0, 21)) 32 8) (rdN (M.1 (0, 21)) 40 8) (M.2.1 (0, 23) p) (M.2.1 MK 5)))) (up D (8 * p + cc) (16384 + clp (dNw (rdN (M.1 (0, 21)) 32 8) (rdN (M.1 (0, 21)) 40 8) (M.2.1 (0, 23) p) (M.2.1 MK 5)) / 65536)) (up T (8 * p + cc) (M.1 MK 6))) (0, 29) p (nI (cc + 1))) p (rdN (M.1 (0, 21)) 40 8) (rdN (M.1 (0, 21)) 4 4) (rdN (M.1 (0, 21)) 8 4) (M.1 (0, 21) 1) (M.1 (0, 25) p)) 0 0 := by
    intro y v3 v5 hy
    have ho := mo_offsetNow (G := G) (l := l) (M := sI (ma M A B D T) (0, 29) p (nI cc)) hM p hp
    rw [ht, hc5, hse] at ho
    rw [← hy]
    refine pw_aload_n d_MO_take_134 rfl ?_
    refine pw_getR d_MO_take_135 f_MO_41 rfl rfl (rfO (hr _ _ _ _ _ _ _ _ hM) rfl) ?_
    refine pw_iload_n d_MO_take_138 rfl ?_
    refine pw_aload_n d_MO_take_139 rfl ?_
    refine pw_iload_n d_MO_take_140 rfl ?_
    refine c_MO_take_141 rfl (Nat.le_of_ble_eq_true rfl) ho ?_
    refine pw_lsN (n := 8 * p + cc) d_MO_take_144 rfl (by omega) (by decide) ?_
    rw [q1]
    refine pw_aload_n d_MO_take_145 rfl ?_
    refine pw_getR d_MO_take_146 f_MO_44 rfl rfl (rfO (hr _ _ _ _ _ _ _ _ hM) rfl) ?_
    refine pw_iload_n d_MO_take_149 rfl ?_
    refine pw_lload d_MO_take_150 rfl ?_
    refine pw_lsN (n := 8 * p + cc) d_MO_take_152 rfl (by omega) (by decide) ?_
    rw [q2]
    refine pw_aload_n d_MO_take_153 rfl ?_
    refine pw_getR d_MO_take_154 f_MO_47 rfl rfl (rfO (hr _ _ _ _ _ _ _ _ hM) rfl) ?_
    refine pw_iload_n d_MO_take_157 rfl ?_
    refine pw_ldc2 (16384) d_MO_take_158 g978 ?_
    refine pw_lload d_MO_take_161 rfl ?_
    refine pw_ldc2 (65536) d_MO_take_163 g954 ?_
    refine pw_ldiv d_MO_take_166 (by decide) ?_
    refine pw_ladd d_MO_take_167 ?_
    refine pw_lsN (n := 8 * p + cc) d_MO_take_168 rfl (by omega) (by decide) ?_
    rw [q3]
    refine pw_aload_n d_MO_take_169 rfl ?_
    refine pw_getR d_MO_take_170 f_MO_50 rfl rfl (rfO (hr _ _ _ _ _ _ _ _ hM) rfl) ?_
    refine pw_iload_n d_MO_take_173 rfl ?_
    refine pw_aload_n d_MO_take_174 rfl ?_
    refine pw_getI d_MO_take_175 f_MO_90 rfl rfl ?_
    rw [hu]
    refine pw_isN (n := 8 * p + cc) d_MO_take_178 rfl (by omega) (by decide) ?_
    rw [q4]
    refine pw_aload_n d_MO_take_179 rfl ?_
    refine pw_getR d_MO_take_180 f_MO_35 rfl rfl (rfO (hr _ _ _ _ _ _ _ _ hM) rfl) ?_
    refine pw_iload_n d_MO_take_183 rfl ?_
    refine pw_dup2_11 d_MO_take_184 rfl rfl ?_
    refine pw_iaN (n := p) d_MO_take_185 rfl (by omega) (by decide) ?_
    rw [sI_s]
    refine pw_iconst 1 d_MO_take_186 (by decide) ?_
    refine pw_iadd d_MO_take_187 ?_
    rw [nI_1]
    refine pw_isN (n := p) d_MO_take_188 rfl (by omega) (by decide) ?_
    rw [sI_sI]
    have hr2 : ∀ (N : Mem) k j x, N.2.2.1 = rf → (sL N k j x).2.2.1 = rf := fun _ _ _ _ h => h
    have hr3 : ∀ (N : Mem) k j x, N.2.2.1 = rf → (sI N k j x).2.2.1 = rf := fun _ _ _ _ h => h
    have n1 := mo_number (G := G) (l := l) (M := sI (ma M (up A (8 * p + cc) (oNw (rdN (M.1 (0, 21)) 32 8) (rdN (M.1 (0, 21)) 40 8) (M.2.1 (0, 23) p) (M.2.1 MK 5))) (up B (8 * p + cc) y) (up D (8 * p + cc) (16384 + y / 65536)) (up T (8 * p + cc) (M.1 MK 6))) (0, 29) p (nI (cc + 1))) hM 40 8 (by decide)
    rw [ht] at n1
    refine pw_aload_n d_MO_take_189 rfl ?_
    refine pw_getR d_MO_take_190 f_MO_20 rfl rfl (rfO (hr _ _ _ _ _ _ _ _ hM) rfl) ?_
    refine pw_iload_n d_MO_take_193 rfl ?_
    refine pw_aload_n d_MO_take_194 rfl ?_
    refine pw_bipush (40) d_MO_take_195 (by decide) ?_
    refine pw_bipush (8) d_MO_take_197 (by decide) ?_
    refine c_MO_take_199 rfl (Nat.le_of_ble_eq_true rfl) n1 ?_
    refine pw_lsN (n := p) d_MO_take_202 rfl (by omega) (by decide) ?_
    refine pw_aload_n d_MO_take_203 rfl ?_
    refine pw_getR d_MO_take_204 f_MO_26 rfl rfl (rfO (hr2 _ _ _ _ (hr _ _ _ _ _ _ _ _ hM)) rfl) ?_
    refine pw_iload_n d_MO_take_207 rfl ?_
    refine pw_aload_n d_MO_take_208 rfl ?_
    refine pw_getR d_MO_take_209 f_MO_7 rfl rfl (rfO (hr2 _ _ _ _ (hr _ _ _ _ _ _ _ _ hM)) rfl) ?_
    refine pw_iconst 1 d_MO_take_212 (by decide) ?_
    refine pw_iaN (n := 1) d_MO_take_213 rfl (by omega) (by decide) ?_
    rw [show ∀ (N : Mem) x, (sL N (0, 24) p x).1 (0, 21) 1 = N.1 (0, 21) 1 from fun _ _ => rfl, ht]
    refine pw_isN (n := p) d_MO_take_214 rfl (by omega) (by decide) ?_
    have ht2 : ∀ (N : Mem) x z, (sI (sL N (0, 24) p x) (0, 26) p z).1 (0, 21) = N.1 (0, 21) := fun N x z => by funext j; simp [sI, sL]
    have n2 := mo_number (G := G) (l := l) (M := sI (sL (sI (ma M (up A (8 * p + cc) (oNw (rdN (M.1 (0, 21)) 32 8) (rdN (M.1 (0, 21)) 40 8) (M.2.1 (0, 23) p) (M.2.1 MK 5))) (up B (8 * p + cc) y) (up D (8 * p + cc) (16384 + y / 65536)) (up T (8 * p + cc) (M.1 MK 6))) (0, 29) p (nI (cc + 1))) (0, 24) p (rdN (M.1 (0, 21)) 40 8)) (0, 26) p (M.1 (0, 21) 1)) hM 4 4 (by decide)
    have n3 := mo_number (G := G) (l := l) (M := sL (sI (sL (sI (ma M (up A (8 * p + cc) (oNw (rdN (M.1 (0, 21)) 32 8) (rdN (M.1 (0, 21)) 40 8) (M.2.1 (0, 23) p) (M.2.1 MK 5))) (up B (8 * p + cc) y) (up D (8 * p + cc) (16384 + y / 65536)) (up T (8 * p + cc) (M.1 MK 6))) (0, 29) p (nI (cc + 1))) (0, 24) p (rdN (M.1 (0, 21)) 40 8)) (0, 26) p (M.1 (0, 21) 1)) (0, 27) p (rdN (M.1 (0, 21)) 4 4 * 65536)) hM 8 4 (by decide)
    rw [show ∀ (N : Mem) x, (sL N (0, 27) p x).1 (0, 21) = N.1 (0, 21) from fun _ _ => rfl, ht2, ht] at n3
    rw [ht2, ht] at n2
    have hN : ∀ (N : Mem) a b, N.2.2.1 = rf → (sI (sL N (0, 24) p a) (0, 26) p b).2.2.1 = rf := fun _ _ _ h => h
    refine pw_aload_n d_MO_take_215 rfl ?_
    refine pw_getR d_MO_take_216 f_MO_29 rfl rfl (rfO (hN _ _ _ (hr _ _ _ _ _ _ _ _ hM)) rfl) ?_
    refine pw_iload_n d_MO_take_219 rfl ?_
    refine pw_aload_n d_MO_take_220 rfl ?_
    refine pw_iconst 4 d_MO_take_221 (by decide) ?_
    refine pw_iconst 4 d_MO_take_222 (by decide) ?_
    refine c_MO_take_223 rfl (Nat.le_of_ble_eq_true rfl) n2 ?_
    refine pw_ldc2 (65536) d_MO_take_226 g954 ?_
    refine pw_lmul d_MO_take_229 ?_
    refine pw_lsN (n := p) d_MO_take_230 rfl (by omega) (by decide) ?_
    refine pw_aload_n d_MO_take_231 rfl ?_
    refine pw_getR d_MO_take_232 f_MO_32 rfl rfl (rfO (hr2 _ _ _ _ (hN _ _ _ (hr _ _ _ _ _ _ _ _ hM))) rfl) ?_
    refine pw_iload_n d_MO_take_235 rfl ?_
    refine pw_aload_n d_MO_take_236 rfl ?_
    refine pw_bipush (8) d_MO_take_237 (by decide) ?_
    refine pw_iconst 4 d_MO_take_239 (by decide) ?_
    refine c_MO_take_240 rfl (Nat.le_of_ble_eq_true rfl) n3 ?_
    refine pw_ldc2 (65536) d_MO_take_243 g954 ?_
    refine pw_lmul d_MO_take_246 ?_
    refine pw_lsN (n := p) d_MO_take_247 rfl (by omega) (by decide) ?_
    refine pw_aload_n d_MO_take_248 rfl ?_
    refine pw_getR d_MO_take_249 f_MO_16 rfl rfl (rfO (hr2 _ _ _ _ (hr2 _ _ _ _ (hN _ _ _ (hr _ _ _ _ _ _ _ _ hM)))) rfl) ?_
    refine pw_iload_n d_MO_take_252 rfl ?_
    refine pw_lconst 0 d_MO_take_253 (by decide) ?_
    refine pw_lsN (n := p) d_MO_take_254 rfl (by omega) (by decide) ?_
    refine pw_aload_n d_MO_take_255 rfl ?_
    refine pw_getR d_MO_take_256 f_MO_23 rfl rfl (rfO (hr2 _ _ _ _ (hr2 _ _ _ _ (hr2 _ _ _ _ (hN _ _ _ (hr _ _ _ _ _ _ _ _ hM))))) rfl) ?_
    refine pw_iload_n d_MO_take_259 rfl ?_
    refine pw_aload_n d_MO_take_260 rfl ?_
    refine pw_getR d_MO_take_261 f_MO_23 rfl rfl (rfO (hr2 _ _ _ _ (hr2 _ _ _ _ (hr2 _ _ _ _ (hN _ _ _ (hr _ _ _ _ _ _ _ _ hM))))) rfl) ?_
    refine pw_iload_n d_MO_take_264 rfl ?_
    refine pw_iaN (n := p) d_MO_take_265 rfl (by omega) (by decide) ?_
    refine pw_iconst 2 d_MO_take_266 (by decide) ?_
    refine pw_idiv d_MO_take_267 (by decide) ?_
    refine pw_iconst 2 d_MO_take_268 (by decide) ?_
    refine pw_imul d_MO_take_269 ?_
    refine pw_iconst 1 d_MO_take_270 (by decide) ?_
    refine pw_iadd d_MO_take_271 ?_
    rw [show ∀ (N : Mem) a b c d e, (sL (sL (sL (sI (sL N (0, 24) p a) (0, 26) p b) (0, 27) p c) (0, 28) p d) (0, 23) p e).1 (0, 25) p = N.1 (0, 25) p from fun N a b c d e => by simp [sI, sL], show ∀ a b d t x, (sI (ma M a b d t) (0, 29) p x).1 (0, 25) p = M.1 (0, 25) p from fun a b d t x => by simp [sI, ma]]
    refine pw_isN (n := p) d_MO_take_272 rfl (by omega) (by decide) ?_
    refine pw_return d_MO_take_273 rfl ?_ ?_
    · rfl
    · rfl
  refine pw_aload_n d_MO_take_51 rfl ?_
  refine pw_iload_n d_MO_take_52 rfl ?_
  refine pw_aload_n d_MO_take_53 rfl ?_
  refine pw_getR d_MO_take_54 f_MO_35 rfl rfl (rfO (hr _ _ _ _ _ _ _ _ hM) rfl) ?_
  refine pw_iload_n d_MO_take_57 rfl ?_
  refine pw_iaN (n := p) d_MO_take_58 rfl (by omega) (by decide) ?_
  rw [sI_s]
  refine c_MO_take_59 rfl (Nat.le_of_ble_eq_true rfl) (mo_sampleN p cc) ?_
  refine pw_istore_n d_MO_take_62 (by decide) ?_
  dsimp only [stL, kil, isL, cat]
  refine pw_aload_n d_MO_take_63 rfl ?_
  refine pw_getL d_MO_take_64 f_MO_79 rfl rfl ?_
  rw [hc5]
  refine pw_aload_n d_MO_take_67 rfl ?_
  refine pw_getR d_MO_take_68 f_MO_16 rfl rfl (rfO (hr _ _ _ _ _ _ _ _ hM) rfl) ?_
  refine pw_iload_n d_MO_take_71 rfl ?_
  refine pw_laN (n := p) d_MO_take_72 rfl (by omega) (by decide) ?_
  rw [hse]
  have n1 := mo_number (G := G) (l := l) (M := sI (ma M A B D T) (0, 29) p (nI cc)) hM 40 8 (by decide)
  have n2 := mo_number (G := G) (l := l) (M := sI (ma M A B D T) (0, 29) p (nI cc)) hM 32 8 (by decide)
  rw [ht] at n1 n2
  refine pw_lsub d_MO_take_73 ?_
  refine pw_lstore_n d_MO_take_74 (by decide) ?_
  dsimp only [stL, kil, isL, cat]
  refine pw_aload_n d_MO_take_75 rfl ?_
  refine pw_bipush (40) d_MO_take_76 (by decide) ?_
  refine pw_bipush (8) d_MO_take_78 (by decide) ?_
  refine c_MO_take_80 rfl (Nat.le_of_ble_eq_true rfl) n1 ?_
  refine pw_aload_n d_MO_take_83 rfl ?_
  refine pw_bipush (32) d_MO_take_84 (by decide) ?_
  refine pw_bipush (8) d_MO_take_86 (by decide) ?_
  refine c_MO_take_88 rfl (Nat.le_of_ble_eq_true rfl) n2 ?_
  refine pw_lsub d_MO_take_91 ?_
  refine pw_lstore d_MO_take_92 (by decide) ?_
  dsimp only [stL, kil, isL, cat]
  refine pw_lload_n d_MO_take_94 rfl ?_
  refine pw_lload d_MO_take_95 rfl ?_
  refine pw_lsub d_MO_take_97 ?_
  refine pw_lstore d_MO_take_98 (by decide) ?_
  dsimp only [stL, kil, isL, cat]
  refine pw_lload d_MO_take_100 rfl ?_
  refine pw_ldc2 (16384) d_MO_take_102 g978 ?_
  refine pw_lcmp d_MO_take_105 ?_
  refine pw_if_ge (tgt := 115) d_MO_take_106 (by decide) (fun h106 => ?_) (fun h106 => ?_)
  · refine pw_lload d_MO_take_115 rfl ?_
    refine pw_ldc2 (68719476736) d_MO_take_117 g956 ?_
    refine pw_lcmp d_MO_take_120 ?_
    refine pw_if_le (tgt := 130) d_MO_take_121 (by decide) (fun h121 => ?_) (fun h121 => ?_)
    · refine pw_lload d_MO_take_130 rfl ?_
      refine pw_lstore d_MO_take_132 (by decide) ?_
      dsimp only [stL, kil, isL, cat]
      refine hk _ _ _ ?_
      simp only [lg_lt, lg_gt, lg_ge, lg_le, lg_eq, Classical.not_not] at h106 h121
      unfold clp dNw
      ((first | have kh106 := eq_false h106 | have kh106 := eq_true h106); (first | have kh121 := eq_false h121 | have kh121 := eq_true h121); simp only [kh106, kh121, and_true, true_and, and_false, false_and, not_true_eq_false, not_false_eq_true, or_true, true_or, or_false, false_or, if_true, if_false, and_self, or_self])
    · refine pw_ldc2 (68719476736) d_MO_take_124 g956 ?_
      refine pw_goto (tgt := 132) d_MO_take_127 (by decide) ?_
      refine pw_lstore d_MO_take_132 (by decide) ?_
      dsimp only [stL, kil, isL, cat]
      refine hk _ _ _ ?_
      simp only [lg_lt, lg_gt, lg_ge, lg_le, lg_eq, Classical.not_not] at h106 h121
      unfold clp dNw
      ((first | have kh106 := eq_false h106 | have kh106 := eq_true h106); (first | have kh121 := eq_false h121 | have kh121 := eq_true h121); simp only [kh106, kh121, and_true, true_and, and_false, false_and, not_true_eq_false, not_false_eq_true, or_true, true_or, or_false, false_or, if_true, if_false, and_self, or_self])
  · refine pw_ldc2 (16384) d_MO_take_109 g978 ?_
    refine pw_goto (tgt := 132) d_MO_take_112 (by decide) ?_
    refine pw_lstore d_MO_take_132 (by decide) ?_
    dsimp only [stL, kil, isL, cat]
    refine hk _ _ _ ?_
    simp only [lg_lt, lg_gt, lg_ge, lg_le, lg_eq, Classical.not_not] at h106
    unfold clp dNw
    ((first | have kh106 := eq_false h106 | have kh106 := eq_true h106); simp only [kh106, and_true, true_and, and_false, false_and, not_true_eq_false, not_false_eq_true, or_true, true_or, or_false, false_or, if_true, if_false, and_self, or_self])
end TKE
