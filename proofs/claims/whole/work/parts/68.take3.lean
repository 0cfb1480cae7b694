/-! a telling is taken, on both sides at once -/
def tk_c (c : Nat) : Nat := if c < 8 then c + 1 else 8
theorem tk_at {α : Type} (f g : Nat → α) (p c : Nat) (hc : c ≤ 8) (x : α) (i : Nat) (hi : i < tk_c c) (h : ∀ i, i < c → f i = g (8 * p + (c - 1 - i))) : shF f (tk_c c) x i = up (d8 g p c) (8 * p + c8 c) x (8 * p + (tk_c c - 1 - i)) := by
  by_cases h8 : c < 8
  · have e : tk_c c = c + 1 := if_pos h8
    rw [e] at hi ⊢
    unfold shF up mv d8 c8
    simp only [h8, if_true]
    by_cases i0 : i = 0
    · subst i0
      simp
    · have a1 : 0 < i ∧ i ≤ c + 1 - 1 := by omega
      have a2 : ¬ 8 * p + (c + 1 - 1 - i) = 8 * p + c := by omega
      rw [if_neg i0, if_pos a1, if_neg a2, h (i - 1) (by omega)]
      congr 2
      omega
  · have : c = 8 := by omega
    subst this
    have e : tk_c 8 = 8 := rfl
    rw [e] at hi ⊢
    unfold shF up mv d8 c8
    simp only [h8, if_false]
    by_cases i0 : i = 0
    · subst i0
      simp
    · have a1 : 0 < i ∧ i ≤ 8 - 1 := by omega
      have a2 : ¬ 8 * p + (8 - 1 - i) = 8 * p + 7 := by omega
      have a3 : 8 * p ≤ 8 * p + (8 - 1 - i) ∧ 8 * p + (8 - 1 - i) + 1 < 8 * p + 8 := by omega
      unfold dn
      rw [if_neg i0, if_pos a1, if_neg a2, if_pos a3, h (i - 1) (by omega)]
      congr 1
      omega
theorem tk_off {α : Type} (g : Nat → α) (p c : Nat) (x : α) (q k : Nat) (hk : k < 8) (h : ¬ q = p) : up (d8 g p c) (8 * p + c8 c) x (8 * q + k) = g (8 * q + k) := by
  unfold up d8 c8
  by_cases h8 : c < 8
  · simp only [h8, if_true]
    rw [if_neg (by omega)]
  · simp only [h8, if_false]
    unfold dn
    rw [if_neg (by omega), if_neg (by omega)]
/-! the two countings are one -/
def cnN (P : Nat → Bool) : Nat → Nat
  | 0 => 0
  | n + 1 => cnN P n + (if P n then 1 else 0)
theorem cnN_c {P Q : Nat → Bool} : ∀ n, (∀ i, i < n → P i = Q i) → cnN P n = cnN Q n
  | 0, _ => rfl
  | n + 1, h => by rw [cnN, cnN, cnN_c n (fun i hi => h i (by omega)), h n (by omega)]
theorem cnN_f (P : Nat → Bool) : ∀ n, cnN P (n + 1) = (if P 0 then 1 else 0) + cnN (fun i => P (i + 1)) n
  | 0 => by simp [cnN]
  | n + 1 => by rw [cnN, cnN_f P n, cnN]; omega
theorem cnN_r (P : Nat → Bool) : ∀ n, cnN P n = cnN (fun i => P (n - 1 - i)) n
  | 0 => rfl
  | n + 1 => by
    rw [cnN_f (fun i => P (n + 1 - 1 - i)) n, cnN, cnN_r P n]
    have : cnN (fun i => P (n - 1 - i)) n = cnN (fun i => P (n + 1 - 1 - (i + 1))) n := cnN_c n (fun i hi => by
      show P (n - 1 - i) = P (n + 1 - 1 - (i + 1))
      congr 1
      omega)
    rw [this]
    show _ = (if P (n + 1 - 1 - 0) = true then 1 else 0) + _
    rw [show n + 1 - 1 - 0 = n by omega]
    omega
theorem bf_cn (d : Nat → Int64) (k : Nat) : ∀ n, bfN d k n = cnN (fun i => decide (d i < d k ∨ (d i = d k ∧ k < i))) n
  | 0 => rfl
  | n + 1 => by
    rw [bfN, cnN, bf_cn d k n]
    by_cases h : d n < d k ∨ (d n = d k ∧ k < n)
    · simp only [h, if_true, decide_true]
    · simp only [h, if_false, decide_false]
      rfl
theorem cr_cn (d : Nat → Int64) (k : Nat) : ∀ n, crN d k n = cnN (fun i => decide (d i < d k ∨ (d i = d k ∧ i < k))) n
  | 0 => rfl
  | n + 1 => by
    rw [crN, cnN, cr_cn d k n]
    by_cases h : d n < d k ∨ (d n = d k ∧ n < k)
    · simp only [h, if_true, decide_true]
    · simp only [h, if_false, decide_false]
      rfl
theorem cr_bf {dC dM : Nat → Int64} {c : Nat} (h : ∀ i, i < c → dC i = dM (c - 1 - i)) {k : Nat} (hk : k < c) : crN dC k c = bfN dM (c - 1 - k) c := by
  rw [cr_cn, bf_cn, cnN_r]
  refine cnN_c c (fun i hi => ?_)
  show decide (dC (c - 1 - i) < dC k ∨ (dC (c - 1 - i) = dC k ∧ c - 1 - i < k)) = _
  rw [h (c - 1 - i) (by omega), h k hk, show c - 1 - (c - 1 - i) = i by omega]
  have e : (c - 1 - i < k) = (c - 1 - k < i) := propext ⟨fun _ => by omega, fun _ => by omega⟩
  simp only [e]
/-! a sum in another order -/
theorem smL_fold (F : Nat → Int64) : ∀ n, smL F n = ((List.range n).reverse.map F).foldr (· + ·) 0
  | 0 => rfl
  | n + 1 => by
    rw [List.range_succ, List.reverse_append, List.reverse_singleton, List.singleton_append, List.map_cons, List.foldr_cons, ← smL_fold F n, smL, Int64.add_comm]
theorem smL_perm (F : Nat → Int64) (π : Nat → Nat) (n : Nat) (h1 : ∀ i, i < n → π i < n) (h2 : ∀ i j, i < n → j < n → π i = π j → i = j) (h3 : ∀ k, k < n → ∃ i, i < n ∧ π i = k) : smL F n = smL (fun i => F (π i)) n := by
  rw [smL_fold, smL_fold]
  have hp : (List.range n).reverse.Perm ((List.range n).reverse.map π) := by
    refine (List.perm_ext_iff_of_nodup ?_ ?_).mpr ?_
    · exact List.pairwise_reverse.mpr (List.nodup_range.imp (fun h => h.symm))
    · unfold List.Nodup
      rw [List.pairwise_map]
      refine List.Pairwise.imp_of_mem ?_ (show List.Pairwise (· ≠ ·) (List.range n).reverse from List.pairwise_reverse.mpr (List.nodup_range.imp (fun h => h.symm)))
      intro a b ha hb hab e
      rw [List.mem_reverse, List.mem_range] at ha hb
      exact hab (h2 a b ha hb e)
    · intro a
      rw [List.mem_reverse, List.mem_range, List.mem_map]
      constructor
      · intro ha
        obtain ⟨i, hi, e⟩ := h3 a ha
        exact ⟨i, by rw [List.mem_reverse, List.mem_range]; exact hi, e⟩
      · rintro ⟨i, hi, e⟩
        rw [List.mem_reverse, List.mem_range] at hi
        rw [← e]
        exact h1 i hi
  have hq := hp.map F
  rw [List.map_map] at hq
  exact hq.foldr_eq' (fun x _ y _ z => by
    show y + (x + z) = x + (y + z)
    rw [← Int64.add_assoc, ← Int64.add_assoc, Int64.add_comm y x]) 0
theorem smL_front (F : Nat → Int64) : ∀ n, smL F (n + 1) = F 0 + smL (fun j => F (j + 1)) n
  | 0 => by
    show smL F 0 + F 0 = F 0 + 0
    rw [smL, Int64.zero_add, Int64.add_zero]
  | n + 1 => by
    rw [smL, smL_front F n, smL, Int64.add_assoc]
/-- the peers' keys of the one, the other keys of the other -/
def mix (A B : Mem) : Mem := (fun k => match k with | (0, j) => B.1 (0, j) | (n + 1, j) => A.1 (n + 1, j), fun k => match k with | (0, j) => B.2.1 (0, j) | (n + 1, j) => A.2.1 (n + 1, j), B.2.2)
def cQ (A N : Mem) : Prop := (∀ q j, N.1 (q + 1, j) = A.1 (q + 1, j) ∧ N.2.1 (q + 1, j) = A.2.1 (q + 1, j)) ∧ ∀ j, j < 20 → N.1 (0, j) = A.1 (0, j) ∧ N.2.1 (0, j) = A.2.1 (0, j)
def mE (B N : Mem) : Prop := (∀ j, 21 ≤ j → j ≤ 34 → N.1 (0, j) = B.1 (0, j) ∧ N.2.1 (0, j) = B.2.1 (0, j)) ∧ (∀ j, j ≠ 0 → j ≠ 32 → N.1 MK j = B.1 MK j) ∧ N.2.1 MK = B.2.1 MK
theorem cQ.t {A B C : Mem} (h : cQ A B) (k : cQ B C) : cQ A C := ⟨fun q j => ⟨(k.1 q j).1.trans (h.1 q j).1, (k.1 q j).2.trans (h.1 q j).2⟩, fun j hj => ⟨(k.2 j hj).1.trans (h.2 j hj).1, (k.2 j hj).2.trans (h.2 j hj).2⟩⟩
theorem mE.t {A B C : Mem} (h : mE A B) (k : mE B C) : mE A C := ⟨fun j a b => ⟨(k.1 j a b).1.trans (h.1 j a b).1, (k.1 j a b).2.trans (h.1 j a b).2⟩, fun j a b => (k.2.1 j a b).trans (h.2.1 j a b), k.2.2.trans h.2.2⟩
theorem cQ_r {A : Mem} : cQ A A := ⟨fun _ _ => ⟨rfl, rfl⟩, fun _ _ => ⟨rfl, rfl⟩⟩
theorem mE_r {A : Mem} : mE A A := ⟨fun _ _ _ => ⟨rfl, rfl⟩, fun _ _ _ => rfl, rfl⟩
theorem R1_cm {A B N : Mem} (hc : cQ A N) (hm : mE B N) {u p c : Nat} (r : R1 (mix A B) u p c) : R1 N u p c :=
  R1_c (M := mix A B) (N := N) ⟨fun q j => hc.1 q j, fun j a b => hm.1 j (by omega) b⟩ (Nat.le_refl _) r
theorem R1_mc {A B M : Mem} (hc : cQ M A) (hm : mE M B) {u p c : Nat} (r : R1 M u p c) : R1 (mix A B) u p c :=
  R1_c (M := M) (N := mix A B) ⟨fun q j => hc.1 q j, fun j a b => hm.1 j (by omega) b⟩ (Nat.le_refl _) r
/-! what a peer's part depends on, sample by sample -/
theorem odK_c {d e : Nat → Int64} {c pl : Nat} (h : ∀ i, i < c → d i = e i) (hp : pl < c) : odK d c pl = odK e c pl := by
  obtain ⟨_, hk, hb⟩ := odK_spec (d := d) hp
  have hq : bfN e (odK d c pl) c = pl := by
    refine Eq.trans ?_ hb
    rw [bf_cn, bf_cn]
    refine cnN_c c (fun i hi => ?_)
    simp only [h i hi, h _ hk]
  have := odK_is (d := e) hk
  rw [hq] at this
  exact this.symm
def sP2 (M N : Mem) (p : Nat) : Prop := (∀ j, N.1 (p + 1, j) = M.1 (p + 1, j) ∧ N.2.1 (p + 1, j) = M.2.1 (p + 1, j)) ∧ (N.1 (0, 25) p = M.1 (0, 25) p ∧ N.1 (0, 26) p = M.1 (0, 26) p ∧ N.1 (0, 29) p = M.1 (0, 29) p ∧ N.1 (0, 30) p = M.1 (0, 30) p) ∧ (N.2.1 (0, 23) p = M.2.1 (0, 23) p ∧ N.2.1 (0, 24) p = M.2.1 (0, 24) p ∧ N.2.1 (0, 27) p = M.2.1 (0, 27) p ∧ N.2.1 (0, 28) p = M.2.1 (0, 28) p) ∧ ∀ k, k < 8 → N.2.1 (0, 31) (8 * p + k) = M.2.1 (0, 31) (8 * p + k) ∧ N.2.1 (0, 32) (8 * p + k) = M.2.1 (0, 32) (8 * p + k) ∧ N.2.1 (0, 33) (8 * p + k) = M.2.1 (0, 33) (8 * p + k) ∧ N.1 (0, 34) (8 * p + k) = M.1 (0, 34) (8 * p + k)
theorem R1_c2 {M N : Mem} {u p c : Nat} (h : sP2 M N p) (r : R1 M u p c) : R1 N u p c := by
  obtain ⟨hc, ⟨a1, a2, a3, a4⟩, ⟨b1, b2, b3, b4⟩, hd⟩ := h
  have h8 : c ≤ 8 := r.1.1
  have ho : ∀ pl, pl < c → odK (mdl N p) c pl = odK (mdl M p) c pl := fun pl hp => odK_c (fun i hi => (hd i (by omega)).2.1) hp
  have hk : ∀ pl, pl < c → odK (mdl M p) c pl < 8 := fun pl hp => by
    have := (odK_spec (d := mdl M p) hp).2.1
    omega
  have hv : ∀ pl, pl < c → N.2.1 (0, 31) (mOk N p c pl) = M.2.1 (0, 31) (mOk M p c pl) := fun pl hp => by
    unfold mOk
    rw [ho pl hp]
    exact (hd _ (hk pl hp)).1
  have hj : 0 < c → mJi N p c = mJi M p c := fun h0 => by
    have e : mJs N p c = mJs M p c := smL_congr _ (fun j hj => by
      show sqL (N.2.1 (0, 31) (mOk N p c (j + 1)) - mOf N p c) = sqL (M.2.1 (0, 31) (mOk M p c (j + 1)) - mOf M p c)
      unfold mOf
      rw [hv (j + 1) (by omega), hv 0 h0])
    unfold mJi
    rw [e]
  obtain ⟨r1, r2, r3, r4, r5, r6, r7, r8⟩ := r
  refine ⟨?_, ?_, ?_, ?_, ?_, fun i hi => ?_, fun pl hpl => ?_, fun h0 => ?_⟩
  · rw [(hc 0).1, a3]; exact r1
  · rw [(hc 0).1, (hc 0).2, b1, b2, b3, b4, a4]; exact r2
  · rw [(hc 0).1, a1]; exact r3
  · rw [(hc 0).1, a2]; exact r4
  · rw [b3, b4]; exact r5
  · have s := r6 i hi
    obtain ⟨d1, d2, d3, d4⟩ := hd (c - 1 - i) (by omega)
    unfold RS at s ⊢
    rw [(hc 1).2, (hc 2).2, (hc 3).2, (hc 4).1, d1, d2, d3, d4]
    exact s
  · rw [(hc 5).1, ho pl hpl]; exact r7 pl hpl
  · rw [(hc 0).2, hj h0]; exact r8 h0
/-! numbers of a telling -/
theorem clp_b (y : Int64) : 16384 ≤ (clp y).toInt ∧ (clp y).toInt ≤ 68719476736 := by
  have e1 : (16384 : Int64).toInt = 16384 := by decide
  have e2 : (68719476736 : Int64).toInt = 68719476736 := by decide
  unfold clp
  split
  · omega
  · rename_i h
    rw [Int64.lt_iff_toInt_lt] at h
    split
    · omega
    · rename_i h2
      rw [Int64.lt_iff_toInt_lt] at h2
      omega
theorem dsp_b {y : Int64} (h : 16384 ≤ y.toInt ∧ y.toInt ≤ 68719476736) : 0 ≤ (16384 + y / 65536 : Int64).toInt ∧ (16384 + y / 65536 : Int64).toInt ≤ 2097152 := by
  have e1 : (16384 : Int64).toInt = 16384 := by decide
  have e2 : (65536 : Int64).toInt = 65536 := by decide
  have e3 : (y / 65536).toInt = y.toInt / 65536 := by rw [l_div0 (by omega) (by decide), e2]
  rw [l_add (by rw [e1, e3]; omega) (by rw [e1, e3]; omega), e1, e3]
  omega
theorem rd_sh {f : Nat → Int32} (hf : ∀ j, byteOK (f j)) (a : Nat) : 0 ≤ (rdN f a 4 * 65536).toInt ∧ (rdN f a 4 * 65536).toInt < 281474976710656 := by
  obtain ⟨m, hm, e⟩ := rd_b hf a 4 (by decide)
  have hm2 : m < 4294967296 := hm
  rw [e, show (65536 : Int64) = lN 65536 from rfl, lN_mul, pk_lT (by omega)]
  omega
theorem spC_n {k : Nat} (hk : k < 8) : ∀ n, n ≤ 8 → spC (nI k) n = if k < n then n - 1 else n
  | 0, _ => by simp [spC]
  | n + 1, hn => by
    rw [spC, spC_n hk n (by omega)]
    by_cases h : k = n
    · subst h
      rw [if_pos rfl, if_neg (by omega), if_pos (by omega)]
      rfl
    · have : ¬ nI n = nI k := fun e => h (by
        have := congrArg Int32.toInt e
        rw [nI_toInt (by omega), nI_toInt (by omega)] at this
        omega)
      rw [if_neg this]
      by_cases h2 : k < n
      · rw [if_pos h2, if_pos (by omega)]
        omega
      · rw [if_neg h2, if_neg (by omega)]
theorem shF_P {α : Type} {P : α → Prop} {f : Nat → α} {c : Nat} {x : α} (hx : P x) (h : ∀ i, i < c → P (f i)) {i : Nat} (hc : c ≤ 8) (hi : i < tk_c c) : P (shF f (tk_c c) x i) := by
  unfold shF up mv
  by_cases i0 : i = 0
  · rw [if_pos i0]
    exact hx
  · rw [if_neg i0]
    have : i - 1 < c := by
      unfold tk_c at hi
      split at hi <;> omega
    rw [if_pos ⟨by omega, by omega⟩]
    exact h _ this
theorem sp_b {f : Nat → Int64} {n : Nat} (hn : n ≤ 8) (h : ∀ i, i < n → oB (f i)) (k : Nat) (hk : k < n) (hs : ¬ spC (nI k) n = 0) : 0 ≤ (spS f (f k) (nI k) n / lN (spC (nI k) n)).toInt ∧ (spS f (f k) (nI k) n / lN (spC (nI k) n)).toInt < 2 ^ 62 := by
  have h1 := spC_le (nI k) n
  refine div_b ?_ (by omega) (by omega)
  have h0 : (0 : Int64).toInt = 0 := by decide
  have := sm_b (f := fun i => if nI i = nI k then 0 else sqL (f i - f k)) n hn (fun i hi => by
    show 0 ≤ (if nI i = nI k then (0 : Int64) else sqL (f i - f k)).toInt ∧ (if nI i = nI k then (0 : Int64) else sqL (f i - f k)).toInt ≤ _
    split
    · omega
    · exact sqL_b (h i hi) (h k hk))
  unfold spS
  exact ⟨this.1, by omega⟩
/-- the spread of the class is the reference's -/
theorem sp_ji {f d : Nat → Int64} {n : Nat} (h0 : 0 < n) (hn : n ≤ 8) {o : Nat → Int32} (hS : SO d n o) (g : Nat → Int64) (hg : ∀ pl, pl < n → f (tn (o pl)) = g pl) : spV f (f (tn (o 0))) (o 0) n = jiV n (smL (fun j => sqL (g (j + 1) - g 0)) (n - 1)) := by
  obtain ⟨a1, a2, a3⟩ := hS 0 h0
  have ec : spC (o 0) n = n - 1 := by
    rw [a2, spC_n (by omega) n hn, if_pos a1]
  have hin : ∀ i j, i < n → j < n → tn (o i) = tn (o j) → i = j := fun i j hi hj e => by
    have p1 := (hS i hi).2.2
    have p2 := (hS j hj).2.2
    rw [e] at p1
    omega
  have es : spS f (f (tn (o 0))) (o 0) n = smL (fun j => sqL (g (j + 1) - g 0)) (n - 1) := by
    unfold spS
    rw [smL_perm _ (fun pl => tn (o pl)) n (fun i hi => (hS i hi).1) hin (fun k hk => by
      have q := cr_ltc (d := d) hk
      refine ⟨crN d k n, q, ?_⟩
      obtain ⟨b1, b2, b3⟩ := hS _ q
      exact cr_inj b1 hk b3)]
    obtain ⟨m, rfl⟩ : ∃ m, n = m + 1 := ⟨n - 1, by omega⟩
    rw [smL_front]
    show (if nI (tn (o 0)) = o 0 then (0 : Int64) else _) + _ = _
    rw [if_pos a2.symm, Int64.zero_add, Nat.add_sub_cancel]
    refine smL_congr m (fun j hj => ?_)
    show (if nI (tn (o (j + 1))) = o 0 then (0 : Int64) else sqL (f (tn (o (j + 1))) - f (tn (o 0)))) = _
    rw [if_neg (fun e => by
      rw [← (hS (j + 1) (by omega)).2.1] at e
      have := hin (j + 1) 0 (by omega) h0 (by rw [e])
      omega), hg (j + 1) (by omega), hg 0 h0]
  unfold spV jiV
  rw [ec, es]
  by_cases h1 : 1 < n
  · rw [if_neg (by omega), if_pos h1]
  · rw [if_pos (by omega), if_neg h1]
section TK8
variable {A B : Mem} {u p c : Nat} {x y : Int64} {o : Nat → Int32}
theorem c8_k : c8 c + 1 = tk_c c := by
  unfold c8 tk_c
  split <;> rfl
theorem tkC_1 {v : Int32} {n : Nat} : (tkC A (adM A p n x y v o) p).2.1 (p + 1, 1) = shF (A.2.1 (p + 1, 1)) n x := by funext i; simp [tkC, adM, pa, oI, sI, sL]
theorem tkC_2 {v : Int32} {n : Nat} : (tkC A (adM A p n x y v o) p).2.1 (p + 1, 2) = shF (A.2.1 (p + 1, 2)) n y := by funext i; simp [tkC, adM, pa, oI, sI, sL]
theorem tkC_3 {v : Int32} {n : Nat} : (tkC A (adM A p n x y v o) p).2.1 (p + 1, 3) = shF (A.2.1 (p + 1, 3)) n (16384 + y / 65536) := by funext i; simp [tkC, adM, pa, oI, sI, sL]
theorem tkC_4 {v : Int32} {n : Nat} : (tkC A (adM A p n x y v o) p).1 (p + 1, 4) = shF (A.1 (p + 1, 4)) n v := by funext i; simp [tkC, adM, pa, oI, sI, sL]
theorem tkC_5 {v : Int32} {n : Nat} : (tkC A (adM A p n x y v o) p).1 (p + 1, 5) = o := by funext i; simp [tkC, adM, pa, oI, sI, sL]
theorem tkC_7 {v : Int32} {n : Nat} : (tkC A (adM A p n x y v o) p).2.1 (p + 1, 0) 7 = mx14 (spV (shF (A.2.1 (p + 1, 1)) n x) (shF (A.2.1 (p + 1, 1)) n x (tn (o 0))) (o 0) n) := by simp [tkC, adM, pa, oI, sI, sL]
theorem tkC_0 {v : Int32} {n : Nat} : (tkC A (adM A p n x y v o) p).1 (p + 1, 0) 6 = nI n ∧ (tkC A (adM A p n x y v o) p).1 (p + 1, 0) 2 = A.1 (PEK p) 2 ||| 1 ∧ (tkC A (adM A p n x y v o) p).1 (p + 1, 0) 3 = A.1 (0, 2) 1 ∧ (tkC A (adM A p n x y v o) p).1 (p + 1, 0) 13 = A.1 (PEK p) 13 := by
  refine ⟨?_, ?_, ?_, ?_⟩ <;> simp [tkC, adM, pa, oI, sI, sL]
theorem tkC_L {v : Int32} {n : Nat} : (tkC A (adM A p n x y v o) p).2.1 (p + 1, 0) 0 = 0 ∧ (tkC A (adM A p n x y v o) p).2.1 (p + 1, 0) 1 = rdN (A.1 (0, 2)) 40 8 ∧ (tkC A (adM A p n x y v o) p).2.1 (p + 1, 0) 4 = rdN (A.1 (0, 2)) 4 4 * 65536 ∧ (tkC A (adM A p n x y v o) p).2.1 (p + 1, 0) 5 = rdN (A.1 (0, 2)) 8 4 * 65536 := by
  refine ⟨?_, ?_, ?_, ?_⟩ <;> simp [tkC, adM, pa, oI, sI, sL]
theorem tkC_f {v : Int32} {n : Nat} {q : KK} (h : ¬ q.1 = p + 1) : (tkC A (adM A p n x y v o) p).1 q = A.1 q ∧ (tkC A (adM A p n x y v o) p).2.1 q = A.2.1 q := by
  have e : ∀ j, ¬ q = (p + 1, j) := fun j e => h (by rw [e])
  constructor
  · funext i
    simp [tkC, adM, pa, oI, sI, sL, e]
  · funext i
    simp [tkC, adM, pa, oI, sI, sL, e]
theorem tkM_f {q : KK} (h : ∀ j, 23 ≤ j → j ≤ 34 → j ≠ 30 → ¬ q = (0, j)) : (tkM B p c).1 q = B.1 q ∧ (tkM B p c).2.1 q = B.2.1 q := by
  have a := fun j (h1 : 23 ≤ j) (h2 : j ≤ 34) (h3 : j ≠ 30) => h j h1 h2 h3
  constructor
  · funext i
    simp [tkM, tkE, ma, sI, sL, a 29 (by decide) (by decide) (by decide), a 25 (by decide) (by decide) (by decide), a 26 (by decide) (by decide) (by decide), a 34 (by decide) (by decide) (by decide)]
  · funext i
    simp [tkM, tkE, ma, sI, sL, a 23 (by decide) (by decide) (by decide), a 24 (by decide) (by decide) (by decide), a 27 (by decide) (by decide) (by decide), a 28 (by decide) (by decide) (by decide), a 31 (by decide) (by decide) (by decide), a 32 (by decide) (by decide) (by decide), a 33 (by decide) (by decide) (by decide)]
theorem tkM_i : (tkM B p c).1 (0, 29) p = nI (c8 c + 1) ∧ (tkM B p c).1 (0, 26) p = B.1 (0, 21) 1 ∧ (tkM B p c).1 (0, 25) p = B.1 (0, 25) p / 2 * 2 + 1 := by
  refine ⟨?_, ?_, ?_⟩ <;> simp [tkM, tkE, ma, sI, sL]
theorem tkM_l : (tkM B p c).2.1 (0, 23) p = 0 ∧ (tkM B p c).2.1 (0, 24) p = rdN (B.1 (0, 21)) 40 8 ∧ (tkM B p c).2.1 (0, 27) p = rdN (B.1 (0, 21)) 4 4 * 65536 ∧ (tkM B p c).2.1 (0, 28) p = rdN (B.1 (0, 21)) 8 4 * 65536 := by
  refine ⟨?_, ?_, ?_, ?_⟩ <;> simp [tkM, tkE, ma, sI, sL]
theorem tkM_a (hx : oNw (rdN (B.1 (0, 21)) 32 8) (rdN (B.1 (0, 21)) 40 8) (B.2.1 (0, 23) p) (B.2.1 MK 5) = x) (hy : clp (dNw (rdN (B.1 (0, 21)) 32 8) (rdN (B.1 (0, 21)) 40 8) (B.2.1 (0, 23) p) (B.2.1 MK 5)) = y) : (tkM B p c).2.1 (0, 31) = up (d8 (B.2.1 (0, 31)) p c) (8 * p + c8 c) x ∧ (tkM B p c).2.1 (0, 32) = up (d8 (B.2.1 (0, 32)) p c) (8 * p + c8 c) y ∧ (tkM B p c).2.1 (0, 33) = up (d8 (B.2.1 (0, 33)) p c) (8 * p + c8 c) (16384 + y / 65536) ∧ (tkM B p c).1 (0, 34) = up (d8 (B.1 (0, 34)) p c) (8 * p + c8 c) (B.1 MK 6) := by
  unfold tkM
  rw [hx, hy]
  refine ⟨?_, ?_, ?_, ?_⟩ <;> funext i <;> simp [tkE, ma, sI, sL]
theorem tk_k0 : 0 < tk_c c := by unfold tk_c; split <;> omega
theorem tk_k8 : tk_c c ≤ 8 := by unfold tk_c; split <;> omega
theorem mJs_mix {n : Nat} : mJs (mix A B) p n = smL (fun j => sqL (B.2.1 (0, 31) (mOk (mix A B) p n (j + 1)) - B.2.1 (0, 31) (mOk (mix A B) p n 0))) (n - 1) := rfl
/-- a telling taken on both sides -/
theorem take_R1 (r : R1 (mix A B) u p c) (t1 : A.1 TPK 1 = nI u) (t6 : B.1 MK 6 = nI u) (hE : A.1 (0, 2) = B.1 (0, 21)) (hb : ∀ j, byteOK (A.1 (0, 2) j)) (hK : A.2.1 TPK 0 = B.2.1 MK 5)
    (hx : x = oNw (rdN (A.1 (0, 2)) 32 8) (rdN (A.1 (0, 2)) 40 8) (A.2.1 (PEK p) 0) (A.2.1 TPK 0)) (hy : y = clp (dNw (rdN (A.1 (0, 2)) 32 8) (rdN (A.1 (0, 2)) 40 8) (A.2.1 (PEK p) 0) (A.2.1 TPK 0))) (hxB : oB x) (s : Nat) (hs : s ≤ 15) (hst : A.1 (0, 2) 1 = nI s) (hS : SO (shF (A.2.1 (p + 1, 2)) (tk_c c) y) (tk_c c) o) :
    R1 (mix (tkC A (adM A p (tk_c c) x y (A.1 TPK 1) o) p) (tkM B p c)) u p (tk_c c) := by
  have h8 : c ≤ 8 := r.1.1
  obtain ⟨r1, r2, ⟨rr, r3, r3a, r3b⟩, r4, r5, r6, r7, r8⟩ := r
  have q1 : A.2.1 (PEK p) 0 = B.2.1 (0, 23) p := r2.1
  have q5 : A.1 (PEK p) 13 = B.1 (0, 30) p := r2.2.2.2.2
  have q3 : A.1 (PEK p) 2 = nI rr := r3a
  have q3' : B.1 (0, 25) p = nI rr := r3b
  have hb' : ∀ j, byteOK (B.1 (0, 21) j) := fun j => by rw [← hE]; exact hb j
  have hyb := clp_b (dNw (rdN (A.1 (0, 2)) 32 8) (rdN (A.1 (0, 2)) 40 8) (A.2.1 (PEK p) 0) (A.2.1 TPK 0))
  rw [← hy] at hyb
  obtain ⟨m31, m32, m33, m34⟩ := tkM_a (B := B) (p := p) (c := c) (x := x) (y := y) (by rw [hx, hE, q1, hK]) (by rw [hy, hE, q1, hK])
  rw [t6] at m34
  have k0 := tk_k0 (c := c)
  have k8 := tk_k8 (c := c)
  obtain ⟨i1, i2, i3⟩ := tkM_i (B := B) (p := p) (c := c)
  obtain ⟨l1, l2, l3, l4⟩ := tkM_l (B := B) (p := p) (c := c)
  obtain ⟨e1, e2, e3, e4⟩ := tkC_0 (A := A) (p := p) (x := x) (y := y) (o := o) (v := A.1 TPK 1) (n := tk_c c)
  obtain ⟨f1, f2, f3, f4⟩ := tkC_L (A := A) (p := p) (x := x) (y := y) (o := o) (v := A.1 TPK 1) (n := tk_c c)
  have g1 := tkC_1 (A := A) (p := p) (x := x) (y := y) (o := o) (v := A.1 TPK 1) (n := tk_c c)
  have g2 := tkC_2 (A := A) (p := p) (x := x) (y := y) (o := o) (v := A.1 TPK 1) (n := tk_c c)
  have g3 := tkC_3 (A := A) (p := p) (x := x) (y := y) (o := o) (v := A.1 TPK 1) (n := tk_c c)
  have g4 := tkC_4 (A := A) (p := p) (x := x) (y := y) (o := o) (v := A.1 TPK 1) (n := tk_c c)
  have g5 := tkC_5 (A := A) (p := p) (x := x) (y := y) (o := o) (v := A.1 TPK 1) (n := tk_c c)
  have g7 := tkC_7 (A := A) (p := p) (x := x) (y := y) (o := o) (v := A.1 TPK 1) (n := tk_c c)
  have p30 := (tkM_f (B := B) (p := p) (c := c) (q := (0, 30)) (fun j _ _ h e => h (by injection e with _ e; exact e.symm))).1
  replace g4 := g4.trans (show shF (A.1 (p + 1, 4)) (tk_c c) (A.1 TPK 1) = shF (A.1 (p + 1, 4)) (tk_c c) (nI u) by rw [t1])
  have at1 : ∀ i, i < tk_c c → shF (A.2.1 (p + 1, 1)) (tk_c c) x i = (tkM B p c).2.1 (0, 31) (8 * p + (tk_c c - 1 - i)) := fun i hi => by
    rw [m31]
    exact tk_at _ _ p c h8 x i hi (fun i hi => (r6 i hi).1.1)
  have at2 : ∀ i, i < tk_c c → shF (A.2.1 (p + 1, 2)) (tk_c c) y i = (tkM B p c).2.1 (0, 32) (8 * p + (tk_c c - 1 - i)) := fun i hi => by
    rw [m32]
    exact tk_at _ _ p c h8 y i hi (fun i hi => (r6 i hi).1.2.1)
  have at3 : ∀ i, i < tk_c c → shF (A.2.1 (p + 1, 3)) (tk_c c) (16384 + y / 65536) i = (tkM B p c).2.1 (0, 33) (8 * p + (tk_c c - 1 - i)) := fun i hi => by
    rw [m33]
    exact tk_at _ _ p c h8 _ i hi (fun i hi => (r6 i hi).1.2.2.1)
  have at4 : ∀ i, i < tk_c c → shF (A.1 (p + 1, 4)) (tk_c c) (nI u) i = (tkM B p c).1 (0, 34) (8 * p + (tk_c c - 1 - i)) := fun i hi => by
    rw [m34]
    exact tk_at _ _ p c h8 _ i hi (fun i hi => (r6 i hi).1.2.2.2)
  generalize tkC A (adM A p (tk_c c) x y (A.1 TPK 1) o) p = A' at *
  generalize tkM B p c = B' at *
  have hod : ∀ pl, pl < tk_c c → odK (mdl (mix A' B') p) (tk_c c) pl = tk_c c - 1 - tn (o pl) := fun pl hpl => by
    obtain ⟨b1, b2, b3⟩ := hS pl hpl
    have e := cr_bf (dM := mdl (mix A' B') p) at2 b1
    rw [b3] at e
    have z := odK_is (d := mdl (mix A' B') p) (c := tk_c c) (k := tk_c c - 1 - tn (o pl)) (by omega)
    rw [← e] at z
    exact z
  refine ⟨⟨k8, e1, ?_⟩, ⟨f1.trans l1.symm, ?_, ?_, ?_, ?_⟩, ⟨rr / 2 * 2 + 1, by omega, ?_, ?_⟩, ⟨s, hs, ?_, ?_⟩, ⟨?_, ?_⟩, fun i hi => ?_, fun pl hpl => ?_, fun _ => ?_⟩
  · exact i1.trans (by rw [c8_k])
  · refine f2.trans (Eq.trans ?_ l2.symm)
    rw [hE]
  · refine f3.trans (Eq.trans ?_ l3.symm)
    rw [hE]
  · refine f4.trans (Eq.trans ?_ l4.symm)
    rw [hE]
  · refine e4.trans (q5.trans ?_)
    rw [← p30]
    rfl
  · refine e2.trans ?_
    rw [q3]
    exact (r_or rr r3).1
  · refine i3.trans ?_
    rw [q3']
    exact (r_or rr r3).2
  · exact e3.trans hst
  · refine i2.trans ?_
    rw [← hE]
    exact hst
  · show 0 ≤ (B'.2.1 (0, 27) p).toInt ∧ (B'.2.1 (0, 27) p).toInt < _
    rw [l3]
    exact rd_sh hb' 4
  · show 0 ≤ (B'.2.1 (0, 28) p).toInt ∧ (B'.2.1 (0, 28) p).toInt < _
    rw [l4]
    exact rd_sh hb' 8
  · show (A'.2.1 (p + 1, 1) i = B'.2.1 (0, 31) (8 * p + (tk_c c - 1 - i)) ∧ A'.2.1 (p + 1, 2) i = B'.2.1 (0, 32) (8 * p + (tk_c c - 1 - i)) ∧ A'.2.1 (p + 1, 3) i = B'.2.1 (0, 33) (8 * p + (tk_c c - 1 - i)) ∧ A'.1 (p + 1, 4) i = B'.1 (0, 34) (8 * p + (tk_c c - 1 - i))) ∧ oB (A'.2.1 (p + 1, 1) i) ∧ (16384 ≤ (A'.2.1 (p + 1, 2) i).toInt ∧ (A'.2.1 (p + 1, 2) i).toInt ≤ 68719476736) ∧ (0 ≤ (A'.2.1 (p + 1, 3) i).toInt ∧ (A'.2.1 (p + 1, 3) i).toInt ≤ 2097152) ∧ ∃ a, a ≤ u ∧ A'.1 (p + 1, 4) i = nI a
    rw [g1, g2, g3, g4]
    refine ⟨⟨at1 i hi, at2 i hi, at3 i hi, at4 i hi⟩, ?_, ?_, ?_, ?_⟩
    · exact shF_P (P := oB) hxB (fun k hk => (r6 k hk).2.1) h8 hi
    · exact shF_P (P := fun z : Int64 => 16384 ≤ z.toInt ∧ z.toInt ≤ 68719476736) hyb (fun k hk => (r6 k hk).2.2.1) h8 hi
    · exact shF_P (P := fun z : Int64 => 0 ≤ z.toInt ∧ z.toInt ≤ 2097152) (dsp_b hyb) (fun k hk => (r6 k hk).2.2.2.1) h8 hi
    · exact shF_P (P := fun z : Int32 => ∃ a, a ≤ u ∧ z = nI a) ⟨u, Nat.le_refl _, rfl⟩ (fun k hk => (r6 k hk).2.2.2.2) h8 hi
  · show A'.1 (p + 1, 5) pl = _
    obtain ⟨b1, b2, b3⟩ := hS pl hpl
    rw [g5, hod pl hpl, show tk_c c - 1 - (tk_c c - 1 - tn (o pl)) = tn (o pl) by omega]
    exact b2
  · refine g7.trans ?_
    unfold mJi
    rw [sp_ji k0 k8 hS (fun pl => B'.2.1 (0, 31) (mOk (mix A' B') p (tk_c c) pl)) (fun pl hpl => by
      show _ = B'.2.1 (0, 31) (8 * p + odK (mdl (mix A' B') p) (tk_c c) pl)
      rw [hod pl hpl]
      exact at1 _ (hS pl hpl).1), mJs_mix]
theorem take_o {v : Int32} {n q cq : Nat} (h : ¬ q = p) (r : R1 (mix A B) u q cq) : R1 (mix (tkC A (adM A p n x y v o) p) (tkM B p c)) u q cq := by
  refine R1_c2 (M := mix A B) (N := mix (tkC A (adM A p n x y v o) p) (tkM B p c)) ⟨fun j => tkC_f (q := (q + 1, j)) (fun e => h (by omega)), ⟨?_, ?_, ?_, ?_⟩, ⟨?_, ?_, ?_, ?_⟩, fun k hk => ⟨?_, ?_, ?_, ?_⟩⟩ r
  · show (tkM B p c).1 (0, 25) q = B.1 (0, 25) q
    simp [tkM, tkE, ma, sI, sL, h]
  · show (tkM B p c).1 (0, 26) q = B.1 (0, 26) q
    simp [tkM, tkE, ma, sI, sL, h]
  · show (tkM B p c).1 (0, 29) q = B.1 (0, 29) q
    simp [tkM, tkE, ma, sI, sL, h]
  · show (tkM B p c).1 (0, 30) q = B.1 (0, 30) q
    simp [tkM, tkE, ma, sI, sL]
  · show (tkM B p c).2.1 (0, 23) q = B.2.1 (0, 23) q
    simp [tkM, tkE, ma, sI, sL, h]
  · show (tkM B p c).2.1 (0, 24) q = B.2.1 (0, 24) q
    simp [tkM, tkE, ma, sI, sL, h]
  · show (tkM B p c).2.1 (0, 27) q = B.2.1 (0, 27) q
    simp [tkM, tkE, ma, sI, sL, h]
  · show (tkM B p c).2.1 (0, 28) q = B.2.1 (0, 28) q
    simp [tkM, tkE, ma, sI, sL, h]
  · show (tkM B p c).2.1 (0, 31) _ = B.2.1 (0, 31) _
    rw [(tkM_a (B := B) (p := p) (c := c) rfl rfl).1]
    exact tk_off _ p c _ q k hk h
  · show (tkM B p c).2.1 (0, 32) _ = B.2.1 (0, 32) _
    rw [(tkM_a (B := B) (p := p) (c := c) rfl rfl).2.1]
    exact tk_off _ p c _ q k hk h
  · show (tkM B p c).2.1 (0, 33) _ = B.2.1 (0, 33) _
    rw [(tkM_a (B := B) (p := p) (c := c) rfl rfl).2.2.1]
    exact tk_off _ p c _ q k hk h
  · show (tkM B p c).1 (0, 34) _ = B.1 (0, 34) _
    rw [(tkM_a (B := B) (p := p) (c := c) rfl rfl).2.2.2]
    exact tk_off _ p c _ q k hk h
/-- the newest look is written down -/
theorem look_R1 {v : Int32} (r : R1 (mix A B) u p c) : R1 (mix (sI A (PEK p) 13 v) (sI B (0, 30) p v)) u p c := by
  obtain ⟨r1, ⟨q1, q2, q3, q4, q5⟩, r3, r4, r5, r6, r7, r8⟩ := r
  have e : ∀ j, ¬ j = 13 → (sI A (PEK p) 13 v).1 (p + 1, 0) j = A.1 (p + 1, 0) j := fun j h => by simp [sI, h]
  have e' : ∀ j, ¬ j = 0 → (sI A (PEK p) 13 v).1 (p + 1, j) = A.1 (p + 1, j) := fun j h => by funext i; simp [sI, h]
  have m : ∀ j, ¬ j = 30 → (sI B (0, 30) p v).1 (0, j) = B.1 (0, j) := fun j h => by funext i; simp [sI, h]
  refine ⟨⟨r1.1, (e 6 (by decide)).trans r1.2.1, ?_⟩, ⟨q1, q2, q3, q4, ?_⟩, ?_, ?_, r5, fun i hi => ?_, fun pl hpl => ?_, r8⟩
  · refine Eq.trans ?_ r1.2.2
    exact congrFun (m 29 (by decide)) p
  · show (sI A (PEK p) 13 v).1 (p + 1, 0) 13 = (sI B (0, 30) p v).1 (0, 30) p
    simp [sI]
  · obtain ⟨s, a1, a2, a3⟩ := r3
    exact ⟨s, a1, (e 2 (by decide)).trans a2, (congrFun (m 25 (by decide)) p).trans a3⟩
  · obtain ⟨s, a1, a2, a3⟩ := r4
    exact ⟨s, a1, (e 3 (by decide)).trans a2, (congrFun (m 26 (by decide)) p).trans a3⟩
  · obtain ⟨⟨s1, s2, s3, s4⟩, s5, s6, s7, a, ha, s8⟩ := r6 i hi
    have e4 := congrFun (e' 4 (by decide)) i
    refine ⟨⟨s1, s2, s3, ?_⟩, s5, s6, s7, a, ha, ?_⟩
    · exact e4.trans (Eq.trans s4 (congrFun (m 34 (by decide)) _).symm)
    · exact e4.trans s8
  · exact (congrFun (e' 5 (by decide)) pl).trans (r7 pl hpl)
theorem look_o {v : Int32} {q cq : Nat} (h : ¬ q = p) (r : R1 (mix A B) u q cq) : R1 (mix (sI A (PEK p) 13 v) (sI B (0, 30) p v)) u q cq := by
  refine R1_c2 (M := mix A B) (N := mix (sI A (PEK p) 13 v) (sI B (0, 30) p v)) ⟨fun j => ⟨?_, rfl⟩, ⟨?_, ?_, ?_, ?_⟩, ⟨rfl, rfl, rfl, rfl⟩, fun k hk => ⟨rfl, rfl, rfl, ?_⟩⟩ r
  · show (sI A (PEK p) 13 v).1 (q + 1, j) = A.1 (q + 1, j)
    funext i
    simp [sI, h]
  · show (sI B (0, 30) p v).1 (0, 25) q = B.1 (0, 25) q
    simp [sI]
  · show (sI B (0, 30) p v).1 (0, 26) q = B.1 (0, 26) q
    simp [sI]
  · show (sI B (0, 30) p v).1 (0, 29) q = B.1 (0, 29) q
    simp [sI]
  · show (sI B (0, 30) p v).1 (0, 30) q = B.1 (0, 30) q
    simp [sI, h]
  · show (sI B (0, 30) p v).1 (0, 34) _ = B.1 (0, 34) _
    simp [sI]
/-- all samples forgotten on both sides -/
theorem forget_R1 {N : Mem} {q cq : Nat} (hq : q < 8) (r : R1 (mix A B) u q cq) (hc : ∀ q j, N.1 (q + 1, j) = (fgC A 8).1 (q + 1, j) ∧ N.2.1 (q + 1, j) = (fgC A 8).2.1 (q + 1, j)) (h29 : N.1 (0, 29) = (fgM B 8).1 (0, 29)) (h23 : N.2.1 (0, 23) = (fgM B 8).2.1 (0, 23)) (hm : ∀ j, 24 ≤ j → j ≤ 30 → j ≠ 29 → N.1 (0, j) = B.1 (0, j) ∧ N.2.1 (0, j) = B.2.1 (0, j)) : R1 N u q 0 := by
  obtain ⟨r1, ⟨q1, q2, q3, q4, q5⟩, r3, r4, r5, r6, r7, r8⟩ := r
  have hi := (hc q 0).1
  have hl := (hc q 0).2
  have e : ∀ j, ¬ j = 6 → N.1 (q + 1, 0) j = A.1 (q + 1, 0) j := fun j h => by rw [hi]; simp [fgC, h]
  have f : ∀ j, ¬ j = 0 → N.2.1 (q + 1, 0) j = A.2.1 (q + 1, 0) j := fun j h => by rw [hl]; simp [fgC, h]
  refine ⟨⟨by omega, ?_, ?_⟩, ⟨?_, ?_, ?_, ?_, ?_⟩, ?_, ?_, ?_, fun i hi => by omega, fun pl hpl => by omega, fun z => by omega⟩
  · rw [hi]
    have : q + 1 ≤ 8 := by omega
    simp [fgC, this]
    rfl
  · rw [h29]
    simp [fgM, hq]
    rfl
  · rw [hl, h23]
    have : q + 1 ≤ 8 := by omega
    simp [fgC, fgM, this, hq]
  · rw [f 1 (by decide), (hm 24 (by decide) (by decide) (by decide)).2]; exact q2
  · rw [f 4 (by decide), (hm 27 (by decide) (by decide) (by decide)).2]; exact q3
  · rw [f 5 (by decide), (hm 28 (by decide) (by decide) (by decide)).2]; exact q4
  · rw [e 13 (by decide), (hm 30 (by decide) (by decide) (by decide)).1]; exact q5
  · rw [e 2 (by decide), (hm 25 (by decide) (by decide) (by decide)).1]; exact r3
  · rw [e 3 (by decide), (hm 26 (by decide) (by decide) (by decide)).1]; exact r4
  · rw [(hm 27 (by decide) (by decide) (by decide)).2, (hm 28 (by decide) (by decide) (by decide)).2]; exact r5
end TK8
