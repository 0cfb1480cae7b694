/-! words of the constructors -/
theorem g24 : Cond.classLink "TimeKeeper" 7 "TimeKeeper$Packet" ∈ GW := gw_of 69 (by decide +kernel) (by decide +kernel)
theorem g25 : Cond.instantiable "TimeKeeper$Packet" 2 ∈ GW := gw_of 70 (by decide +kernel) (by decide +kernel)
theorem g39 : Cond.arrayClass FieldType.int ∈ GW := gw_of 84 (by decide +kernel) (by decide +kernel)
theorem g40 : Cond.classLink "TimeKeeper" 21 "TimeKeeper$Timepiece" ∈ GW := gw_of 85 (by decide +kernel) (by decide +kernel)
theorem g41 : Cond.instantiable "TimeKeeper$Timepiece" 10 ∈ GW := gw_of 86 (by decide +kernel) (by decide +kernel)
theorem g86 : Cond.classLink "TimeKeeper" 28 "TimeKeeper$Peer" ∈ GW := gw_of 131 (by decide +kernel) (by decide +kernel)
theorem g88 : Cond.instantiable "TimeKeeper$Peer" 14 ∈ GW := gw_of 133 (by decide +kernel) (by decide +kernel)
theorem g146 : Cond.arrayClass FieldType.long ∈ GW := gw_of 191 (by decide +kernel) (by decide +kernel)
theorem g147 : Cond.classLink "TimeKeeper" 35 "TimeKeeper$Choice" ∈ GW := gw_of 192 (by decide +kernel) (by decide +kernel)
theorem g148 : Cond.instantiable "TimeKeeper$Choice" 10 ∈ GW := gw_of 193 (by decide +kernel) (by decide +kernel)
theorem g153 : Cond.classLink "TimeKeeper$Choice" 9 "TimeKeeper$Row" ∈ GW := gw_of 198 (by decide +kernel) (by decide +kernel)
theorem g154 : Cond.instantiable "TimeKeeper$Row" 6 ∈ GW := gw_of 199 (by decide +kernel) (by decide +kernel)
theorem ao_peer {G : GG} : ∀ s, TB G s → va_AO "TimeKeeper$Peer" s := fun s h => h.2.2.2.2.2.2
/-! the constructors -/
section MONO
variable {G : GG} {l : Launch} {mi : MI} {pc : Nat} {L : List (Option PV)} {st : List PV} {M M' : Mem} {o : PO} {mc ms mc2 ms2 : Nat}
theorem pw_mono (h1 : mc ≤ mc2) (h2 : ms ≤ ms2) (h : PW G l mi pc L st M o M' mc ms) : PW G l mi pc L st M o M' mc2 ms2 := by
  intro p e R s mid args below meth c B C H locs cells slots ls ad D
  obtain ⟨⟨d1, d2⟩, d3⟩ := D
  refine W_mono (h p e R s mid args below meth c B C H locs cells slots ls ad ⟨⟨by omega, by omega⟩, d3⟩) ?_
  rintro t ⟨out, ad', Ls, a1, a2, a3, a4, a5⟩
  exact ⟨out, ad', Ls, a1, a2, a3, sbn_mono a4 (by omega) (by omega), a5⟩
end MONO
/-- memories with no long but 0 -/
def nf (I : KK → Nat → Int32) (R : KK → Nat → Option KK) (n : Nat) : Mem := (I, fun _ _ => 0, R, n)
def upR (R : KK → Nat → Option KK) (k : KK) (f : Nat → Option KK) : KK → Nat → Option KK := fun q i => if q = k then f i else R q i
def nil_ : Nat → Option KK := fun _ => none
section NF
variable {I : KK → Nat → Int32} {R : KK → Nat → Option KK} {n : Nat} {k : KK}
theorem nf_nw (hI : ∀ j, I k j = 0) : nw (nf I R n) k = nf I (upR R k nil_) (n + 1) := by
  unfold nw nf upR nil_
  refine Prod.ext ?_ (Prod.ext ?_ rfl)
  · funext q i
    show ite _ _ _ = I q i
    by_cases h : q = k
    · rw [if_pos h, h, hI]
    · rw [if_neg h]
  · funext q i
    show ite _ _ _ = _
    split <;> rfl
theorem upR_id {f : Nat → Option KK} (h : f = R k) : upR R k f = R := by
  funext q i
  unfold upR
  by_cases e : q = k
  · rw [if_pos e, h, e]
  · rw [if_neg e]
theorem nf_nw0 (hI : ∀ j, I k j = 0) (hR : R k = nil_) : nw (nf I R n) k = nf I R (n + 1) := by
  rw [nf_nw hI, upR_id hR.symm]
theorem nf_sR {j : Nat} {x : Option KK} : sR (nf I R n) k j x = nf I (upR R k (up (R k) j x)) n := by
  unfold sR nf upR up
  refine Prod.ext rfl (Prod.ext rfl (Prod.ext ?_ rfl))
  funext q i
  show ite _ _ _ = ite _ (ite _ _ _) _
  by_cases h : q = k
  · by_cases h2 : i = j <;> simp [h, h2]
  · simp [h]
theorem upR2 {f g : Nat → Option KK} : upR (upR R k f) k g = upR R k g := by
  funext q i
  unfold upR
  split <;> rfl
theorem upR_at {f : Nat → Option KK} : upR R k f k = f := by
  funext i
  unfold upR
  rw [if_pos rfl]
theorem upR_ne {f : Nat → Option KK} {q : KK} (h : q ≠ k) : upR R k f q = R q := by
  funext i
  unfold upR
  rw [if_neg h]
theorem nf_sI {j : Nat} {x : Int32} : sI (nf I R n) k j x = nf (fun q i => if q = k ∧ i = j then x else I q i) R n := rfl
end NF
section CT
variable {G : GG} {l : Launch} {I : KK → Nat → Int32} {R : KK → Nat → Option KK} {n : Nat}
theorem pm_PKinit (k ka : KK) (z : Nat) (a : Int32) (hk : shp k = (0, 1)) (hka : shp ka = (1, z)) (hn : nk n = ka) (h79 : n < 79) (ha : ¬ a < 0) (hz : a.toNatClampNeg = z) (hb : z * 4 ≤ 536870912) (hI : ∀ j, I ka j = 0) (hR : R ka = nil_) : PM G l m_PK_init [vR (some k), vI a] (nf I R n) rV (nf I (upR R k (up (R k) 0 (some ka))) (n + 1)) 1 z := by
  refine pm_in [some (vR (some k)), some (vI a)] rfl ?_
  refine pw_mono (mc := 0 + 1) (ms := 0 + z) (by omega) (by omega) ?_
  refine pw_aload_n d_PK_init_0 rfl ?_
  refine c_PK_init_1 (Nat.le_of_ble_eq_true rfl) ?_
  refine pw_aload_n d_PK_init_4 rfl ?_
  refine pw_iload_n d_PK_init_5 rfl ?_
  refine pw_newI (k := ka) d_PK_init_6 g39 ha hz hb hn h79 hka ?_
  rw [nf_nw0 hI hR]
  refine pw_putF d_PK_init_8 f_PK_9 hk rfl rfl rfl rfl (by rw [hka]; show (1 : Nat) ≠ 9; decide) ?_
  rw [nf_sR]
  refine pw_return d_PK_init_11 rfl ?_ ?_
  · rfl
  · rfl
theorem pm_TPinit (k : KK) (hk : shp k = (0, 2)) : PM G l m_TP_init [vR (some k)] (nf I R n) rV (nf (fun q i => if q = k ∧ i = 7 then -1 else if q = k ∧ i = 5 then 6 else I q i) R n) 0 0 := by
  refine pm_in [some (vR (some k))] rfl ?_
  refine pw_aload_n d_TP_init_0 rfl ?_
  refine c_TP_init_1 (Nat.le_of_ble_eq_true rfl) ?_
  refine pw_aload_n d_TP_init_4 rfl ?_
  refine pw_bipush (6) d_TP_init_5 (by decide) ?_
  refine pw_putI d_TP_init_7 f_TP_9 hk rfl rfl ?_
  refine pw_aload_n d_TP_init_10 rfl ?_
  refine pw_iconst (-1) d_TP_init_11 (by decide) ?_
  refine pw_putI d_TP_init_12 f_TP_15 hk rfl rfl ?_
  refine pw_return d_TP_init_15 rfl ?_ ?_
  · rfl
  · rfl
theorem nk_pe : ∀ p, p < 8 → ∀ j, j < 6 → nk (7 + 6 * p + j) = (p + 1, j) := by decide +kernel
theorem pm_PEinit (p : Nat) (hp : p < 8) (hI : ∀ j i, I (p + 1, j) i = 0) (hR : ∀ j, 0 < j → R (p + 1, j) = nil_) : PM G l m_PE_init [vR (some (p + 1, 0))] (nf I R (7 + 6 * p + 1)) rV (nf (fun q i => if q = (p + 1, 0) ∧ i = 13 then -1 else I q i) (upR R (p + 1, 0) (up (up (up (up (up (R (p + 1, 0)) 8 (some (p + 1, 1))) 9 (some (p + 1, 2))) 10 (some (p + 1, 3))) 11 (some (p + 1, 4))) 12 (some (p + 1, 5)))) (7 + 6 * p + 6)) 5 40 := by
  refine pm_in [some (vR (some (p + 1, 0)))] rfl ?_
  refine pw_mono (mc := 0 + 1 + 1 + 1 + 1 + 1) (ms := 0 + 8 + 8 + 8 + 8 + 8) (by omega) (by omega) ?_
  have hne : ∀ j, 0 < j → ((p + 1, j) : KK) ≠ (p + 1, 0) := fun j hj e => by simp at e; omega
  have hR2 : ∀ f j, 0 < j → upR R (p + 1, 0) f (p + 1, j) = nil_ := fun f j hj => by rw [upR_ne (hne j hj)]; exact hR j hj
  refine pw_aload_n d_PE_init_0 rfl ?_
  refine c_PE_init_1 (Nat.le_of_ble_eq_true rfl) ?_
  refine pw_aload_n d_PE_init_4 rfl ?_
  refine pw_bipush (8) d_PE_init_5 (by decide) ?_
  refine pw_newL (k := (p + 1, 1)) d_PE_init_7 g146 (by decide) rfl (by decide) (nk_pe p hp 1 (by decide)) (show 7 + 6 * p + 1 < 79 by omega) rfl ?_
  rw [nf_nw0 (hI 1) (hR 1 (by decide))]
  refine pw_putF d_PE_init_9 f_PE_9 rfl rfl rfl rfl rfl (show (2 : Nat) ≠ 9 by decide) ?_
  rw [nf_sR]
  refine pw_aload_n d_PE_init_12 rfl ?_
  refine pw_bipush (8) d_PE_init_13 (by decide) ?_
  refine pw_newL (k := (p + 1, 2)) d_PE_init_15 g146 (by decide) rfl (by decide) (nk_pe p hp 2 (by decide)) (show 7 + 6 * p + 2 < 79 by omega) rfl ?_
  rw [nf_nw0 (hI 2) (hR2 _ 2 (by decide))]
  refine pw_putF d_PE_init_17 f_PE_15 rfl rfl rfl rfl rfl (show (2 : Nat) ≠ 9 by decide) ?_
  rw [nf_sR, upR_at, upR2]
  refine pw_aload_n d_PE_init_20 rfl ?_
  refine pw_bipush (8) d_PE_init_21 (by decide) ?_
  refine pw_newL (k := (p + 1, 3)) d_PE_init_23 g146 (by decide) rfl (by decide) (nk_pe p hp 3 (by decide)) (show 7 + 6 * p + 3 < 79 by omega) rfl ?_
  rw [nf_nw0 (hI 3) (hR2 _ 3 (by decide))]
  refine pw_putF d_PE_init_25 f_PE_18 rfl rfl rfl rfl rfl (show (2 : Nat) ≠ 9 by decide) ?_
  rw [nf_sR, upR_at, upR2]
  refine pw_aload_n d_PE_init_28 rfl ?_
  refine pw_bipush (8) d_PE_init_29 (by decide) ?_
  refine pw_newI (k := (p + 1, 4)) d_PE_init_31 g39 (by decide) rfl (by decide) (nk_pe p hp 4 (by decide)) (show 7 + 6 * p + 4 < 79 by omega) rfl ?_
  rw [nf_nw0 (hI 4) (hR2 _ 4 (by decide))]
  refine pw_putF d_PE_init_33 f_PE_21 rfl rfl rfl rfl rfl (show (1 : Nat) ≠ 9 by decide) ?_
  rw [nf_sR, upR_at, upR2]
  refine pw_aload_n d_PE_init_36 rfl ?_
  refine pw_bipush (8) d_PE_init_37 (by decide) ?_
  refine pw_newI (k := (p + 1, 5)) d_PE_init_39 g39 (by decide) rfl (by decide) (nk_pe p hp 5 (by decide)) (show 7 + 6 * p + 5 < 79 by omega) rfl ?_
  rw [nf_nw0 (hI 5) (hR2 _ 5 (by decide))]
  refine pw_putF d_PE_init_41 f_PE_25 rfl rfl rfl rfl rfl (show (1 : Nat) ≠ 9 by decide) ?_
  rw [nf_sR, upR_at, upR2]
  refine pw_aload_n d_PE_init_44 rfl ?_
  refine pw_iconst (-1) d_PE_init_45 (by decide) ?_
  refine pw_putI d_PE_init_46 f_PE_28 rfl rfl rfl ?_
  refine pw_return d_PE_init_49 rfl ?_ ?_
  · rfl
  · rfl
theorem pm_RWinit (h9 : ∀ j i, I (0, j) i = 0 ∨ j < 9) (hR : ∀ j, 9 ≤ j → j ≤ 13 → R (0, j) = nil_) : PM G l m_RW_init [vR (some (0, 8))] (nf I R 57) rV (nf I (upR R (0, 8) (up (up (up (up (up (R (0, 8)) 0 (some (0, 9))) 1 (some (0, 10))) 2 (some (0, 11))) 3 (some (0, 12))) 4 (some (0, 13)))) 62) 5 40 := by
  refine pm_in [some (vR (some (0, 8)))] rfl ?_
  refine pw_mono (mc := 0 + 1 + 1 + 1 + 1 + 1) (ms := 0 + 8 + 8 + 8 + 8 + 8) (by omega) (by omega) ?_
  have hI : ∀ j, 9 ≤ j → ∀ i, I (0, j) i = 0 := fun j hj i => (h9 j i).resolve_right (by omega)
  have hR2 : ∀ f j, 9 ≤ j → j ≤ 13 → upR R (0, 8) f (0, j) = nil_ := fun f j h1 h2 => by rw [upR_ne (fun e => by simp at e; omega)]; exact hR j h1 h2
  refine pw_aload_n d_RW_init_0 rfl ?_
  refine c_RW_init_1 (Nat.le_of_ble_eq_true rfl) ?_
  refine pw_aload_n d_RW_init_4 rfl ?_
  refine pw_bipush (8) d_RW_init_5 (by decide) ?_
  refine pw_newI (k := (0, 9)) d_RW_init_7 g39 (by decide) rfl (by decide) rfl (Nat.le_of_ble_eq_true rfl) rfl ?_
  rw [nf_nw0 (hI 9 (by decide)) (hR 9 (by decide) (by decide))]
  refine pw_putF d_RW_init_9 f_RW_9 rfl rfl rfl rfl rfl (by decide) ?_
  rw [nf_sR]
  refine pw_aload_n d_RW_init_12 rfl ?_
  refine pw_bipush (8) d_RW_init_13 (by decide) ?_
  refine pw_newI (k := (0, 10)) d_RW_init_15 g39 (by decide) rfl (by decide) rfl (Nat.le_of_ble_eq_true rfl) rfl ?_
  rw [nf_nw0 (hI 10 (by decide)) (hR2 _ 10 (by decide) (by decide))]
  refine pw_putF d_RW_init_17 f_RW_15 rfl rfl rfl rfl rfl (by decide) ?_
  rw [nf_sR, upR_at, upR2]
  refine pw_aload_n d_RW_init_20 rfl ?_
  refine pw_bipush (8) d_RW_init_21 (by decide) ?_
  refine pw_newL (k := (0, 11)) d_RW_init_23 g146 (by decide) rfl (by decide) rfl (Nat.le_of_ble_eq_true rfl) rfl ?_
  rw [nf_nw0 (hI 11 (by decide)) (hR2 _ 11 (by decide) (by decide))]
  refine pw_putF d_RW_init_25 f_RW_18 rfl rfl rfl rfl rfl (by decide) ?_
  rw [nf_sR, upR_at, upR2]
  refine pw_aload_n d_RW_init_28 rfl ?_
  refine pw_bipush (8) d_RW_init_29 (by decide) ?_
  refine pw_newL (k := (0, 12)) d_RW_init_31 g146 (by decide) rfl (by decide) rfl (Nat.le_of_ble_eq_true rfl) rfl ?_
  rw [nf_nw0 (hI 12 (by decide)) (hR2 _ 12 (by decide) (by decide))]
  refine pw_putF d_RW_init_33 f_RW_22 rfl rfl rfl rfl rfl (by decide) ?_
  rw [nf_sR, upR_at, upR2]
  refine pw_aload_n d_RW_init_36 rfl ?_
  refine pw_bipush (8) d_RW_init_37 (by decide) ?_
  refine pw_newL (k := (0, 13)) d_RW_init_39 g146 (by decide) rfl (by decide) rfl (Nat.le_of_ble_eq_true rfl) rfl ?_
  rw [nf_nw0 (hI 13 (by decide)) (hR2 _ 13 (by decide) (by decide))]
  refine pw_putF d_RW_init_41 f_RW_25 rfl rfl rfl rfl rfl (by decide) ?_
  rw [nf_sR, upR_at, upR2]
  refine pw_return d_RW_init_44 rfl ?_ ?_
  · rfl
  · rfl
theorem rf8 : up (up (up (up (up nil_ 0 (some (0, 9))) 1 (some (0, 10))) 2 (some (0, 11))) 3 (some (0, 12))) 4 (some (0, 13)) = rf (0, 8) := by
  funext j
  match j with
  | 0 => rfl
  | 1 => rfl
  | 2 => rfl
  | 3 => rfl
  | 4 => rfl
  | j + 5 => simp [up, nil_]; rfl
theorem rfp (p : Nat) : up (up (up (up (up nil_ 8 (some (p + 1, 1))) 9 (some (p + 1, 2))) 10 (some (p + 1, 3))) 11 (some (p + 1, 4))) 12 (some (p + 1, 5)) = rf (p + 1, 0) := by
  funext j
  match j with
  | 0 => rfl
  | 1 => rfl
  | 2 => rfl
  | 3 => rfl
  | 4 => rfl
  | 5 => rfl
  | 6 => rfl
  | 7 => rfl
  | 8 => rfl
  | 9 => rfl
  | 10 => rfl
  | 11 => rfl
  | 12 => rfl
  | j + 13 => simp [up, nil_]; rfl
theorem rf1 : up nil_ 0 (some (0, 2)) = rf (0, 1) := by
  funext j
  match j with
  | 0 => rfl
  | j + 1 => simp [up, nil_]; rfl
theorem rf3 : up nil_ 0 (some (0, 4)) = rf (0, 3) := by
  funext j
  match j with
  | 0 => rfl
  | j + 1 => simp [up, nil_]; rfl
theorem rf7 : up nil_ 0 (some (0, 8)) = rf (0, 7) := by
  funext j
  match j with
  | 0 => rfl
  | j + 1 => simp [up, nil_]; rfl
theorem pm_CHinit (h9 : ∀ j i, I (0, j) i = 0 ∨ j < 8) (hR : ∀ j, 8 ≤ j → j ≤ 13 → R (0, j) = rf (0, j)) : PM G l m_CH_init [vR (some (0, 7))] (nf I R 56) rV (nf I (upR R (0, 7) (up (R (0, 7)) 0 (some (0, 8)))) 62) 6 46 := by
  refine pm_in [some (vR (some (0, 7)))] rfl ?_
  refine pw_mono (mc := (5 + 0) + 1) (ms := (40 + 0) + 6) (by omega) (by omega) ?_
  refine pw_aload_n d_CH_init_0 rfl ?_
  refine c_CH_init_1 (Nat.le_of_ble_eq_true rfl) ?_
  refine pw_aload_n d_CH_init_4 rfl ?_
  refine pw_new (ci := 5) (k := (0, 8)) d_CH_init_5 (by decide) g153 g154 g6 rfl (Nat.le_of_ble_eq_true rfl) rfl (by decide) ?_
  rw [nf_nw (fun j => (h9 8 j).resolve_right (by omega))]
  refine pw_dup d_CH_init_8 rfl ?_
  refine c_CH_init_9 (Nat.le_of_ble_eq_true rfl) (pm_RWinit (fun j i => (h9 j i).imp id (by omega)) (fun j h1 h2 => by
    rw [upR_ne (fun e => by simp at e; omega), hR j (by omega) h2]
    have : j = 9 ∨ j = 10 ∨ j = 11 ∨ j = 12 ∨ j = 13 := by omega
    rcases this with rfl | rfl | rfl | rfl | rfl <;> rfl)) ?_
  rw [upR_at, upR2, upR_id (by rw [rf8, hR 8 (by decide) (by decide)])]
  refine pw_putF d_CH_init_12 f_CH_12 rfl rfl rfl rfl rfl (by decide) ?_
  rw [nf_sR]
  refine pw_return d_CH_init_15 rfl ?_ ?_
  · rfl
  · rfl
/-- the ints, as the peers are made -/
def ic1 : KK → Nat → Int32 := fun q i => if q = (0, 5) ∧ i = 7 then -1 else if q = (0, 5) ∧ i = 5 then 6 else 0
def ic2 (p : Nat) : KK → Nat → Int32 := fun q i => if (0 < q.1 ∧ q.1 ≤ p) ∧ q.2 = 0 ∧ i = 13 then -1 else ic1 q i
theorem ic2_0 : ic2 0 = ic1 := by
  funext q i
  unfold ic2
  rw [if_neg (by omega)]
theorem ic2_s (p : Nat) : (fun q i => if q = (p + 1, 0) ∧ i = 13 then -1 else ic2 p q i) = ic2 (p + 1) := by
  funext q i
  obtain ⟨a, b⟩ := q
  unfold ic2
  by_cases h : (a, b) = ((p + 1, 0) : KK) ∧ i = 13
  · rw [if_pos h]
    simp at h
    rw [if_pos (by simp; omega)]
  · rw [if_neg h]
    by_cases h2 : (0 < a ∧ a ≤ p) ∧ b = 0 ∧ i = 13
    · rw [if_pos h2, if_pos (by simp; omega)]
    · rw [if_neg h2, if_neg (by simp at h ⊢; omega)]
def g6 (i : Nat) : Nat → Option KK := fun j => if j < i then some (j + 1, 0) else none
theorem g6_s (i : Nat) : up (g6 i) i (some (i + 1, 0)) = g6 (i + 1) := by
  funext j
  unfold up g6
  by_cases h : j = i
  · subst h
    rw [if_pos rfl, if_pos (by omega)]
  · rw [if_neg h]
    by_cases h2 : j < i
    · rw [if_pos h2, if_pos (by omega)]
    · rw [if_neg h2, if_neg (by omega)]
theorem g6_8 : g6 8 = rf (0, 6) := rfl
def ft3 : Nat → Option KK := up (up (up (up nil_ 0 (some (0, 1))) 1 (some (0, 3))) 2 (some (0, 5))) 3 (some (0, 6))
theorem rf0 : up ft3 4 (some (0, 7)) = rf (0, 0) := by
  funext j
  match j with
  | 0 => rfl
  | 1 => rfl
  | 2 => rfl
  | 3 => rfl
  | 4 => rfl
  | j + 5 => simp [up, ft3, nil_]; rfl
theorem lp_peers (o : PO) (M' : Mem) (mc ms : Nat)
    (hend : PW G l m_TK_init 77 [some (vR (some TKK)), some (vI (nI 8))] [] (nf (ic2 8) (upR rf (0, 0) ft3) 55) o M' mc ms) :
    ∀ i, i ≤ 8 → PW G l m_TK_init 52 [some (vR (some TKK)), some (vI (nI i))] [] (nf (ic2 i) (upR (upR rf (0, 0) ft3) (0, 6) (g6 i)) (7 + 6 * i)) o M' (mc + 6 * (8 - i)) (ms + 54 * (8 - i)) := by
  refine lpU ?_ ?_
  · rw [g6_8, upR_id (by rw [upR_ne (by decide)])]
    refine pw_iload_n d_TK_init_52 rfl ?_
    refine pw_bipush (8) d_TK_init_53 (by decide) ?_
    refine pw_icmp_ge (tgt := 77) d_TK_init_55 (by decide) (fun _ => ?_) (fun hQ => absurd (nI_le (a := 8) (b := 8) (by omega) (by omega)) hQ)
    exact hend
  · intro i hi ih
    have e6 : (nf (ic2 i) (upR (upR rf (0, 0) ft3) (0, 6) (g6 i)) (7 + 6 * i)).2.2.1 (0, 0) 3 = some (0, 6) := by simp [nf, upR, ft3, up]
    refine pw_mono (mc := (5 + (mc + 6 * (8 - (i + 1)))) + 1) (ms := (40 + (ms + 54 * (8 - (i + 1)))) + 14) (by omega) (by omega) ?_
    refine pw_iload_n d_TK_init_52 rfl ?_
    refine pw_bipush (8) d_TK_init_53 (by decide) ?_
    refine pw_icmp_ge (tgt := 77) d_TK_init_55 (by decide) (fun hQ => absurd hQ (nI_ge (b := 8) hi (by omega))) (fun _ => ?_)
    refine pw_aload_n d_TK_init_58 rfl ?_
    refine pw_getR d_TK_init_59 f_TK_30 rfl rfl e6 ?_
    refine pw_iload_n d_TK_init_62 rfl ?_
    refine pw_new (ci := 3) (k := (i + 1, 0)) d_TK_init_63 (by decide) g86 g88 g4 (nk_pe i hi 0 (by decide)) (show 7 + 6 * i < 79 by omega) rfl (by decide) ?_
    rw [nf_nw (fun j => by unfold ic2 ic1; simp)]
    refine pw_dup d_TK_init_66 rfl ?_
    refine c_TK_init_67 (Nat.le_of_ble_eq_true rfl) (pm_PEinit i hi (fun j a => by unfold ic2 ic1; simp) (fun j hj => by
      rw [upR_ne (fun e => by simp at e; omega), upR_ne (fun e => by simp at e), upR_ne (fun e => by simp at e)]
      funext a
      match j, hj with
      | j + 1, _ => rfl)) ?_
    rw [upR_at, upR2, rfp, upR_id (by rw [upR_ne (fun e => by simp at e), upR_ne (fun e => by simp at e)]), ic2_s]
    refine pw_aastore d_TK_init_70 rfl rfl (vp_in_nI hi (by decide)) ?_
    rw [nI_clamp (by omega), nf_sR, upR_at, upR2, g6_s]
    refine pw_iinc (1) d_TK_init_71 rfl (by decide) (by decide) ?_
    dsimp only [stL, kil, isL, cat]
    refine pw_goto (tgt := 52) d_TK_init_74 (by decide) ?_
    rw [nI_1]
    exact ih
theorem pm_TKinit : PM G l m_TK_init [vR (some TKK)] (nf (fun _ _ => 0) (upR rf (0, 0) nil_) 1) rV (nf (ic2 8) rf 62) 61 628 := by
  refine pm_in [some (vR (some TKK)), none] rfl ?_
  refine pw_mono (mc := (1 + ((1 + ((0 + (((6 + 0) + 1) + 6 * 8 + 1)) + 1)) + 1)) + 1) (ms := (64 + ((48 + ((0 + (((46 + 0) + 10) + 54 * 8 + 8)) + 10)) + 2)) + 2) (by decide) (by decide) ?_
  refine pw_aload_n d_TK_init_0 rfl ?_
  refine c_TK_init_1 (Nat.le_of_ble_eq_true rfl) ?_
  refine pw_aload_n d_TK_init_4 rfl ?_
  refine pw_new (ci := 1) (k := (0, 1)) d_TK_init_5 (by decide) g24 g25 g2 rfl (Nat.le_of_ble_eq_true rfl) rfl (by decide) ?_
  rw [nf_nw (fun _ => rfl)]
  refine pw_dup d_TK_init_8 rfl ?_
  refine pw_bipush (64) d_TK_init_9 (by decide) ?_
  refine c_TK_init_11 (Nat.le_of_ble_eq_true rfl) (pm_PKinit (0, 1) (0, 2) 64 64 rfl rfl rfl (by decide) (by decide) rfl (by decide) (fun _ => rfl) (by rw [upR_ne (by decide), upR_ne (by decide)]; rfl)) ?_
  rw [upR_at, upR2, rf1, upR_id (by rw [upR_ne (by decide)])]
  refine pw_putF d_TK_init_14 f_TK_14 rfl rfl rfl rfl rfl (by decide) ?_
  rw [nf_sR, upR_at, upR2]
  refine pw_aload_n d_TK_init_17 rfl ?_
  refine pw_new (ci := 1) (k := (0, 3)) d_TK_init_18 (by decide) g24 g25 g2 rfl (Nat.le_of_ble_eq_true rfl) rfl (by decide) ?_
  rw [nf_nw (fun _ => rfl)]
  refine pw_dup d_TK_init_21 rfl ?_
  refine pw_bipush (48) d_TK_init_22 (by decide) ?_
  refine c_TK_init_24 (Nat.le_of_ble_eq_true rfl) (pm_PKinit (0, 3) (0, 4) 48 48 rfl rfl rfl (by decide) (by decide) rfl (by decide) (fun _ => rfl) (by rw [upR_ne (by decide), upR_ne (by decide)]; rfl)) ?_
  rw [upR_at, upR2, rf3, upR_id (by rw [upR_ne (by decide)])]
  refine pw_putF d_TK_init_27 f_TK_18 rfl rfl rfl rfl rfl (by decide) ?_
  rw [nf_sR, upR_at, upR2]
  refine pw_aload_n d_TK_init_30 rfl ?_
  refine pw_new (ci := 2) (k := (0, 5)) d_TK_init_31 (by decide) g40 g41 g3 rfl (Nat.le_of_ble_eq_true rfl) rfl (by decide) ?_
  rw [nf_nw0 (fun _ => rfl) (by rw [upR_ne (by decide)]; rfl)]
  refine pw_dup d_TK_init_34 rfl ?_
  refine c_TK_init_35 (Nat.le_of_ble_eq_true rfl) (pm_TPinit (0, 5) rfl) ?_
  refine pw_putF d_TK_init_38 f_TK_24 rfl rfl rfl rfl rfl (by decide) ?_
  rw [nf_sR, upR_at, upR2]
  refine pw_aload_n d_TK_init_41 rfl ?_
  refine pw_bipush (8) d_TK_init_42 (by decide) ?_
  refine pw_newR (k := (0, 6)) d_TK_init_44 g86 ao_peer (by decide) rfl (by decide) rfl (Nat.le_of_ble_eq_true rfl) rfl ?_
  rw [nf_nw (fun _ => rfl)]
  refine pw_putF d_TK_init_47 f_TK_30 rfl rfl rfl rfl rfl (by decide) ?_
  rw [nf_sR, upR_ne (q := (0, 0)) (by decide), upR_at]
  refine pw_iconst 0 d_TK_init_50 (by decide) ?_
  refine pw_istore_n d_TK_init_51 (by decide) ?_
  dsimp only [stL, kil, isL, cat]
  have q := lp_peers (G := G) (l := l) rV (nf (ic2 8) rf 62) ((6 + 0) + 1) ((46 + 0) + 10) ?_ 0 (by omega)
  · have e : upR (upR (upR rf (0, 0) (up (up (up nil_ 0 (some (0, 1))) 1 (some (0, 3))) 2 (some (0, 5)))) (0, 6) nil_) (0, 0) (up (up (up (up nil_ 0 (some (0, 1))) 1 (some (0, 3))) 2 (some (0, 5))) 3 (some (0, 6))) = upR (upR rf (0, 0) ft3) (0, 6) (g6 0) := by
      funext a i
      unfold upR
      by_cases h0 : a = (0, 0)
      · subst h0; rfl
      · by_cases h6 : a = (0, 6)
        · subst h6; rfl
        · simp [h0, h6]
    rw [e]
    rw [ic2_0] at q
    exact q
  · refine pw_aload_n d_TK_init_77 rfl ?_
    refine pw_new (ci := 4) (k := (0, 7)) d_TK_init_78 (by decide) g147 g148 g5 rfl (Nat.le_of_ble_eq_true rfl) rfl (by decide) ?_
    rw [nf_nw (fun j => by unfold ic2 ic1; simp)]
    refine pw_dup d_TK_init_81 rfl ?_
    refine c_TK_init_82 (Nat.le_of_ble_eq_true rfl) (pm_CHinit (fun j i => by
      by_cases hj : j < 8
      · exact Or.inr hj
      · left
        unfold ic2 ic1
        simp
        omega) (fun j h1 h2 => by rw [upR_ne (fun e => by simp at e; omega), upR_ne (fun e => by simp at e; omega)])) ?_
    rw [upR_at, upR2, rf7, upR_id (by rw [upR_ne (by decide)])]
    refine pw_putF d_TK_init_85 f_TK_38 rfl rfl rfl rfl rfl (by decide) ?_
    rw [nf_sR, upR_at, upR2, rf0, upR_id rfl]
    refine pw_return d_TK_init_88 rfl ?_ ?_
    · rfl
    · rfl
end CT
