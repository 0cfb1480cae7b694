/-! words of the constructors -/
theorem g24 : Cond.classLink "TimeKeeper" 7 "TimeKeeper$Packet" ∈ GW := gw_of 69 (by decide +kernel) (by decide +kernel)
theorem g25 : Cond.instantiable "TimeKeeper$Packet" 2 ∈ GW := gw_of 70 (by decide +kernel) (by decide +kernel)
theorem g39 : Cond.arrayClass FieldType.int ∈ GW := gw_of 84 (by decide +kernel) (by decide +kernel)
theorem g40 : Cond.classLink "TimeKeeper" 21 "TimeKeeper$Timepiece" ∈ GW := gw_of 85 (by decide +kernel) (by decide +kernel)
theorem g41 : Cond.instantiable "TimeKeeper$Timepiece" 10 ∈ GW := gw_of 86 (by decide +kernel) (by decide +kernel)
theorem g86 : Cond.classLink "TimeKeeper" 28 "TimeKeeper$Peer" ∈ GW := gw_of 131 (by decide +kernel) (by decide +kernel)
theorem g88 : Cond.instantiable "TimeKeeper$Peer" 14 ∈ GW := gw_of 133 (by decide +kernel) (by decide +kernel)
theorem g146 : Cond.arrayClass FieldType.long ∈ GW := gw_of 191 (by decide +kernel) (by decide +kernel)
theorem g147 : Cond.classLink "TimeKeeper" 35 "TimeKeeper$Choice" ∈ GW := gw_of 192 (by decide +kernel) (by decide +kernel)
theorem g148 : Cond.instantiable "TimeKeeper$Choice" 10 ∈ GW := gw_of 193 (by decide +kernel) (by decide +kernel)
theorem g153 : Cond.classLink "TimeKeeper$Choice" 9 "TimeKeeper$Row" ∈ GW := gw_of 198 (by decide +kernel) (by decide +kernel)
theorem g154 : Cond.instantiable "TimeKeeper$Row" 6 ∈ GW := gw_of 199 (by decide +kernel) (by decide +kernel)
theorem ao_peer {G : GG} : ∀ s, TB G s → va_AO "TimeKeeper$Peer" s := fun s h => h.2.2.2.2.2.2
/-! the constructors -/
section MONO
variable {G : GG} {l : Launch} {mi : MI} {pc : Nat} {L : List (Option PV)} {st : List PV} {M M' : Mem} {o : PO} {mc ms mc2 ms2 : Nat}
theorem pw_mono (h1 : mc ≤ mc2) (h2 : ms ≤ ms2) (h : PW G l mi pc L st M o M' mc ms) : PW G l mi pc L st M o M' mc2 ms2 := by
  intro p e R s mid args below meth c B C H locs cells slots ls ad D
  obtain ⟨⟨d1, d2⟩, d3⟩ := D
  refine W_mono (h p e R s mid args below meth c B C H locs cells slots ls ad ⟨⟨by omega, by omega⟩, d3⟩) ?_
  rintro t ⟨out, ad', Ls, a1, a2, a3, a4, a5⟩
  exact ⟨out, ad', Ls, a1, a2, a3, sbn_mono a4 (by omega) (by omega), a5⟩
end MONO
/-- memories with no long but 0 -/
def nf (I : KK → Nat → Int32) (R : KK → Nat → Option KK) (n : Nat) : Mem := (I, fun _ _ => 0, R, n)
def upR (R : KK → Nat → Option KK) (k : KK) (f : Nat → Option KK) : KK → Nat → Option KK := fun q i => if q = k then f i else R q i
def nil_ : Nat → Option KK := fun _ => none
section NF
variable {I : KK → Nat → Int32} {R : KK → Nat → Option KK} {n : Nat} {k : KK}
theorem nf_nw (hI : ∀ j, I k j = 0) : nw (nf I R n) k = nf I (upR R k nil_) (n + 1) := by
  unfold nw nf upR nil_
  refine Prod.ext ?_ (Prod.ext ?_ rfl)
  · funext q i
    show ite _ _ _ = I q i
    by_cases h : q = k
    · rw [if_pos h, h, hI]
    · rw [if_neg h]
  · funext q i
    show ite _ _ _ = _
    split <;> rfl
theorem upR_id {f : Nat → Option KK} (h : f = R k) : upR R k f = R := by
  funext q i
  unfold upR
  by_cases e : q = k
  · rw [if_pos e, h, e]
  · rw [if_neg e]
theorem nf_nw0 (hI : ∀ j, I k j = 0) (hR : R k = nil_) : nw (nf I R n) k = nf I R (n + 1) := by
  rw [nf_nw hI, upR_id hR.symm]
theorem nf_sR {j : Nat} {x : Option KK} : sR (nf I R n) k j x = nf I (upR R k (up (R k) j x)) n := by
  unfold sR nf upR up
  refine Prod.ext rfl (Prod.ext rfl (Prod.ext ?_ rfl))
  funext q i
  show ite _ _ _ = ite _ (ite _ _ _) _
  by_cases h : q = k
  · by_cases h2 : i = j <;> simp [h, h2]
  · simp [h]
theorem upR2 {f g : Nat → Option KK} : upR (upR R k f) k g = upR R k g := by
  funext q i
  unfold upR
  split <;> rfl
theorem upR_at {f : Nat → Option KK} : upR R k f k = f := by
  funext i
  unfold upR
  rw [if_pos rfl]
theorem upR_ne {f : Nat → Option KK} {q : KK} (h : q ≠ k) : upR R k f q = R q := by
  funext i
  unfold upR
  rw [if_neg h]
theorem nf_sI {j : Nat} {x : Int32} : sI (nf I R n) k j x = nf (fun q i => if q = k ∧ i = j then x else I q i) R n := rfl
end NF
section CT
variable {G : GG} {l : Launch} {I : KK → Nat → Int32} {R : KK → Nat → Option KK} {n : Nat}
theorem pm_PKinit (k ka : KK) (z : Nat) (a : Int32) (hk : shp k = (0, 1)) (hka : shp ka = (1, z)) (hn : nk n = ka) (h79 : n < 79) (ha : ¬ a < 0) (hz : a.toNatClampNeg = z) (hb : z * 4 ≤ 536870912) (hI : ∀ j, I ka j = 0) (hR : R ka = nil_) : PM G l m_PK_init [vR (some k), vI a] (nf I R n) rV (nf I (upR R k (up (R k) 0 (some ka))) (n + 1)) 1 z := by
  refine pm_in [some (vR (some k)), some (vI a)] rfl ?_
  refine pw_mono (mc := 0 + 1) (ms := 0 + z) (by omega) (by omega) ?_
  refine pw_aload_n d_PK_init_0 rfl ?_
  refine c_PK_init_1 (Nat.le_of_ble_eq_true rfl) ?_
  refine pw_aload_n d_PK_init_4 rfl ?_
  refine pw_iload_n d_PK_init_5 rfl ?_
  refine pw_newI (k := ka) d_PK_init_6 g39 ha hz hb hn h79 hka ?_
  rw [nf_nw0 hI hR]
  refine pw_putF d_PK_init_8 f_PK_9 hk rfl rfl rfl rfl (by rw [hka]; show (1 : Nat) ≠ 9; decide) ?_
  rw [nf_sR]
  refine pw_return d_PK_init_11 rfl ?_ ?_
  · rfl
  · rfl
theorem pm_TPinit (k : KK) (hk : shp k = (0, 2)) : PM G l m_TP_init [vR (some k)] (nf I R n) rV (nf (fun q i => if q = k ∧ i = 7 then -1 else if q = k ∧ i = 5 then 6 else I q i) R n) 0 0 := by
  refine pm_in [some (vR (some k))] rfl ?_
  refine pw_aload_n d_TP_init_0 rfl ?_
  refine c_TP_init_1 (Nat.le_of_ble_eq_true rfl) ?_
  refine pw_aload_n d_TP_init_4 rfl ?_
  refine pw_bipush (6) d_TP_init_5 (by decide) ?_
  refine pw_putI d_TP_init_7 f_TP_9 hk rfl rfl ?_
  refine pw_aload_n d_TP_init_10 rfl ?_
  refine pw_iconst (-1) d_TP_init_11 (by decide) ?_
  refine pw_putI d_TP_init_12 f_TP_15 hk rfl rfl ?_
  refine pw_return d_TP_init_15 rfl ?_ ?_
  · rfl
  · rfl
theorem nk_pe : ∀ p, p < 8 → ∀ j, j < 6 → nk (7 + 6 * p + j) = (p + 1, j) := by decide +kernel
theorem pm_PEinit (p : Nat) (hp : p < 8) (hI : ∀ j i, I (p + 1, j) i = 0) (hR : ∀ j, 0 < j → R (p + 1, j) = nil_) : PM G l m_PE_init [vR (some (p + 1, 0))] (nf I R (7 + 6 * p + 1)) rV (nf (fun q i => if q = (p + 1, 0) ∧ i = 13 then -1 else I q i) (upR R (p + 1, 0) (up (up (up (up (up (R (p + 1, 0)) 8 (some (p + 1, 1))) 9 (some (p + 1, 2))) 10 (some (p + 1, 3))) 11 (some (p + 1, 4))) 12 (some (p + 1, 5)))) (7 + 6 * p + 6)) 5 40 := by
  refine pm_in [some (vR (some (p + 1, 0)))] rfl ?_
  refine pw_mono (mc := 0 + 1 + 1 + 1 + 1 + 1) (ms := 0 + 8 + 8 + 8 + 8 + 8) (by omega) (by omega) ?_
  have hne : ∀ j, 0 < j → ((p + 1, j) : KK) ≠ (p + 1, 0) := fun j hj e => by simp at e; omega
  have hR2 : ∀ f j, 0 < j → upR R (p + 1, 0) f (p + 1, j) = nil_ := fun f j hj => by rw [upR_ne (hne j hj)]; exact hR j hj
  refine pw_aload_n d_PE_init_0 rfl ?_
  refine c_PE_init_1 (Nat.le_of_ble_eq_true rfl) ?_
  refine pw_aload_n d_PE_init_4 rfl ?_
  refine pw_bipush (8) d_PE_init_5 (by decide) ?_
  refine pw_newL (k := (p + 1, 1)) d_PE_init_7 g146 (by decide) rfl (by decide) (nk_pe p hp 1 (by decide)) (show 7 + 6 * p + 1 < 79 by omega) rfl ?_
  rw [nf_nw0 (hI 1) (hR 1 (by decide))]
  refine pw_putF d_PE_init_9 f_PE_9 rfl rfl rfl rfl rfl (show (2 : Nat) ≠ 9 by decide) ?_
  rw [nf_sR]
  refine pw_aload_n d_PE_init_12 rfl ?_
  refine pw_bipush (8) d_PE_init_13 (by decide) ?_
  refine pw_newL (k := (p + 1, 2)) d_PE_init_15 g146 (by decide) rfl (by decide) (nk_pe p hp 2 (by decide)) (show 7 + 6 * p + 2 < 79 by omega) rfl ?_
  rw [nf_nw0 (hI 2) (hR2 _ 2 (by decide))]
  refine pw_putF d_PE_init_17 f_PE_15 rfl rfl rfl rfl rfl (show (2 : Nat) ≠ 9 by decide) ?_
  rw [nf_sR, upR_at, upR2]
  refine pw_aload_n d_PE_init_20 rfl ?_
  refine pw_bipush (8) d_PE_init_21 (by decide) ?_
  refine pw_newL (k := (p + 1, 3)) d_PE_init_23 g146 (by decide) rfl (by decide) (nk_pe p hp 3 (by decide)) (show 7 + 6 * p + 3 < 79 by omega) rfl ?_
  rw [nf_nw0 (hI 3) (hR2 _ 3 (by decide))]
  refine pw_putF d_PE_init_25 f_PE_18 rfl rfl rfl rfl rfl (show (2 : Nat) ≠ 9 by decide) ?_
  rw [nf_sR, upR_at, upR2]
  refine pw_aload_n d_PE_init_28 rfl ?_
  refine pw_bipush (8) d_PE_init_29 (by decide) ?_
  refine pw_newI (k := (p + 1, 4)) d_PE_init_31 g39 (by decide) rfl (by decide) (nk_pe p hp 4 (by decide)) (show 7 + 6 * p + 4 < 79 by omega) rfl ?_
  rw [nf_nw0 (hI 4) (hR2 _ 4 (by decide))]
  refine pw_putF d_PE_init_33 f_PE_21 rfl rfl rfl rfl rfl (show (1 : Nat) ≠ 9 by decide) ?_
  rw [nf_sR, upR_at, upR2]
  refine pw_aload_n d_PE_init_36 rfl ?_
  refine pw_bipush (8) d_PE_init_37 (by decide) ?_
  refine pw_newI (k := (p + 1, 5)) d_PE_init_39 g39 (by decide) rfl (by decide) (nk_pe p hp 5 (by decide)) (show 7 + 6 * p + 5 < 79 by omega) rfl ?_
  rw [nf_nw0 (hI 5) (hR2 _ 5 (by decide))]
  refine pw_putF d_PE_init_41 f_PE_25 rfl rfl rfl rfl rfl (show (1 : Nat) ≠ 9 by decide) ?_
  rw [nf_sR, upR_at, upR2]
  refine pw_aload_n d_PE_init_44 rfl ?_
  refine pw_iconst (-1) d_PE_init_45 (by decide) ?_
  refine pw_putI d_PE_init_46 f_PE_28 rfl rfl rfl ?_
  refine pw_return d_PE_init_49 rfl ?_ ?_
  · rfl
  · rfl
theorem pm_RWinit (h9 : ∀ j i, I (0, j) i = 0 ∨ j < 9) (hR : ∀ j, 9 ≤ j → j ≤ 13 → R (0, j) = nil_) : PM G l m_RW_init [vR (some (0, 8))] (nf I R 57) rV (nf I (upR R (0, 8) (up (up (up (up (up (R (0, 8)) 0 (some (0, 9))) 1 (some (0, 10))) 2 (some (0, 11))) 3 (some (0, 12))) 4 (some (0, 13)))) 62) 5 40 := by
  refine pm_in [some (vR (some (0, 8)))] rfl ?_
  refine pw_mono (mc := 0 + 1 + 1 + 1 + 1 + 1) (ms := 0 + 8 + 8 + 8 + 8 + 8) (by omega) (by omega) ?_
  have hI : ∀ j, 9 ≤ j → ∀ i, I (0, j) i = 0 := fun j hj i => (h9 j i).resolve_right (by omega)
  have hR2 : ∀ f j, 9 ≤ j → j ≤ 13 → upR R (0, 8) f (0, j) = nil_ := fun f j h1 h2 => by rw [upR_ne (fun e => by simp at e; omega)]; exact hR j h1 h2
  refine pw_aload_n d_RW_init_0 rfl ?_
  refine c_RW_init_1 (Nat.le_of_ble_eq_true rfl) ?_
  refine pw_aload_n d_RW_init_4 rfl ?_
  refine pw_bipush (8) d_RW_init_5 (by decide) ?_
  refine pw_newI (k := (0, 9)) d_RW_init_7 g39 (by decide) rfl (by decide) rfl (Nat.le_of_ble_eq_true rfl) rfl ?_
  rw [nf_nw0 (hI 9 (by decide)) (hR 9 (by decide) (by decide))]
  refine pw_putF d_RW_init_9 f_RW_9 rfl rfl rfl rfl rfl (by decide) ?_
  rw [nf_sR]
  refine pw_aload_n d_RW_init_12 rfl ?_
  refine pw_bipush (8) d_RW_init_13 (by decide) ?_
  refine pw_newI (k := (0, 10)) d_RW_init_15 g39 (by decide) rfl (by decide) rfl (Nat.le_of_ble_eq_true rfl) rfl ?_
  rw [nf_nw0 (hI 10 (by decide)) (hR2 _ 10 (by decide) (by decide))]
  refine pw_putF d_RW_init_17 f_RW_15 rfl rfl rfl rfl rfl (by decide) ?_
  rw [nf_sR, upR_at, upR2]
  refine pw_aload_n d_RW_init_20 rfl ?_
  refine pw_bipush (8) d_RW_init_21 (by decide) ?_
  refine pw_newL (k := (0, 11)) d_RW_init_23 g146 (by decide) rfl (by decide) rfl (Nat.le_of_ble_eq_true rfl) rfl ?_
  rw [nf_nw0 (hI 11 (by decide)) (hR2 _ 11 (by decide) (by decide))]
  refine pw_putF d_RW_init_25 f_RW_18 rfl rfl rfl rfl rfl (by decide) ?_
  rw [nf_sR, upR_at, upR2]
  refine pw_aload_n d_RW_init_28 rfl ?_
  refine pw_bipush (8) d_RW_init_29 (by decide) ?_
  refine pw_newL (k := (0, 12)) d_RW_init_31 g146 (by decide) rfl (by decide) rfl (Nat.le_of_ble_eq_true rfl) rfl ?_
  rw [nf_nw0 (hI 12 (by decide)) (hR2 _ 12 (by decide) (by decide))]
  refine pw_putF d_RW_init_33 f_RW_22 rfl rfl rfl rfl rfl (by decide) ?_
  rw [nf_sR, upR_at, upR2]
  refine pw_aload_n d_RW_init_36 rfl ?_
  refine pw_bipush (8) d_RW_init_37 (by decide) ?_
  refine pw_newL (k := (0, 13)) d_RW_init_39 g146 (by decide) rfl (by decide) rfl (Nat.le_of_ble_eq_true rfl) rfl ?_
  rw [nf_nw0 (hI 13 (by decide)) (hR2 _ 13 (by decide) (by decide))]
  refine pw_putF d_RW_init_41 f_RW_25 rfl rfl rfl rfl rfl (by decide) ?_
  rw [nf_sR, upR_at, upR2]
  refine pw_return d_RW_init_44 rfl ?_ ?_
  · rfl
  · rfl
theorem rf8 : up (up (up (up (up nil_ 0 (some (0, 9))) 1 (some (0, 10))) 2 (some (0, 11))) 3 (some (0, 12))) 4 (some (0, 13)) = rf (0, 8) := by
  funext j
  match j with
  | 0 => rfl
  | 1 => rfl
  | 2 => rfl
  | 3 => rfl
  | 4 => rfl
  | j + 5 => simp [up, nil_]; rfl
theorem rfp (p : Nat) : up (up (up (up (up nil_ 8 (some (p + 1, 1))) 9 (some (p + 1, 2))) 10 (some (p + 1, 3))) 11 (some (p + 1, 4))) 12 (some (p + 1, 5)) = rf (p + 1, 0) := by
  funext j
  match j with
  | 0 => rfl
  | 1 => rfl
  | 2 => rfl
  | 3 => rfl
  | 4 => rfl
  | 5 => rfl
  | 6 => rfl
  | 7 => rfl
  | 8 => rfl
  | 9 => rfl
  | 10 => rfl
  | 11 => rfl
  | 12 => rfl
  | j + 13 => simp [up, nil_]; rfl
theorem rf1 : up nil_ 0 (some (0, 2)) = rf (0, 1) := by
  funext j
  match j with
  | 0 => rfl
  | j + 1 => simp [up, nil_]; rfl
theorem rf3 : up nil_ 0 (some (0, 4)) = rf (0, 3) := by
  funext j
  match j with
  | 0 => rfl
  | j + 1 => simp [up, nil_]; rfl
theorem rf7 : up nil_ 0 (some (0, 8)) = rf (0, 7) := by
  funext j
  match j with
  | 0 => rfl
  | j + 1 => simp [up, nil_]; rfl
theorem pm_CHinit (h9 : ∀ j i, I (0, j) i = 0 ∨ j < 8) (hR : ∀ j, 8 ≤ j → j ≤ 13 → R (0, j) = rf (0, j)) : PM G l m_CH_init [vR (some (0, 7))] (nf I R 56) rV (nf I (upR R (0, 7) (up (R (0, 7)) 0 (some (0, 8)))) 62) 6 46 := by
  refine pm_in [some (vR (some (0, 7)))] rfl ?_
  refine pw_mono (mc := 6) (ms := 46) (by omega) (by omega) ?_
  refine pw_aload_n d_CH_init_0 rfl ?_
  refine c_CH_init_1 (Nat.le_of_ble_eq_true rfl) ?_
  refine pw_aload_n d_CH_init_4 rfl ?_
  refine pw_new (mc := 5) (ms := 40) (ci := 5) (k := (0, 8)) d_CH_init_5 (by decide) g153 g154 g6 rfl (Nat.le_of_ble_eq_true rfl) rfl (by decide) ?_
  rw [nf_nw (fun j => (h9 8 j).resolve_right (by omega))]
  refine pw_dup d_CH_init_8 rfl ?_
  have q := pm_RWinit (G := G) (l := l) (I := I) (R := upR R (0, 8) nil_) (fun j i => (h9 j i).imp id (by omega)) (fun j h1 h2 => by
    rw [upR_ne (fun e => by simp at e; omega), hR j (by omega) h2]
    have : j = 9 ∨ j = 10 ∨ j = 11 ∨ j = 12 ∨ j = 13 := by omega
    rcases this with rfl | rfl | rfl | rfl | rfl <;> rfl)
  refine c_CH_init_9 (c1 := 5) (s1 := 40) (mc := 0) (ms := 0) (Nat.le_of_ble_eq_true rfl) q ?_
  rw [upR_at, upR2, upR_id (by rw [rf8, hR 8 (by decide) (by decide)])]
  refine pw_putF d_CH_init_12 f_CH_12 rfl rfl rfl rfl rfl (by decide) ?_
  rw [nf_sR]
  refine pw_return d_CH_init_15 rfl ?_ ?_
  · rfl
  · rfl
/-- the ints, as the peers are made -/
def ic1 : KK → Nat → Int32 := fun q i => if q = (0, 5) ∧ i = 7 then -1 else if q = (0, 5) ∧ i = 5 then 6 else 0
def ic2 (p : Nat) : KK → Nat → Int32 := fun q i => if (0 < q.1 ∧ q.1 ≤ p) ∧ q.2 = 0 ∧ i = 13 then -1 else ic1 q i
theorem ic2_0 : ic2 0 = ic1 := by
  funext q i
  unfold ic2
  rw [if_neg (by omega)]
theorem ic2_s (p : Nat) : (fun q i => if q = (p + 1, 0) ∧ i = 13 then -1 else ic2 p q i) = ic2 (p + 1) := by
  funext q i
  obtain ⟨a, b⟩ := q
  unfold ic2
  by_cases h : (a, b) = ((p + 1, 0) : KK) ∧ i = 13
  · rw [if_pos h]
    simp at h
    rw [if_pos (by simp; omega)]
  · rw [if_neg h]
    by_cases h2 : (0 < a ∧ a ≤ p) ∧ b = 0 ∧ i = 13
    · rw [if_pos h2, if_pos (by simp; omega)]
    · rw [if_neg h2, if_neg (by simp at h ⊢; omega)]
def pq (i : Nat) : Nat → Option KK := fun j => if j < i then some (j + 1, 0) else none
theorem pq_s (i : Nat) : up (pq i) i (some (i + 1, 0)) = pq (i + 1) := by
  funext j
  unfold up pq
  by_cases h : j = i
  · subst h
    rw [if_pos rfl, if_pos (by omega)]
  · rw [if_neg h]
    by_cases h2 : j < i
    · rw [if_pos h2, if_pos (by omega)]
    · rw [if_neg h2, if_neg (by omega)]
theorem pq_8 : pq 8 = rf (0, 6) := rfl
def ft3 : Nat → Option KK := up (up (up (up nil_ 0 (some (0, 1))) 1 (some (0, 3))) 2 (some (0, 5))) 3 (some (0, 6))
theorem rf0 : up ft3 4 (some (0, 7)) = rf (0, 0) := by
  funext j
  match j with
  | 0 => rfl
  | 1 => rfl
  | 2 => rfl
  | 3 => rfl
  | 4 => rfl
  | j + 5 => simp [up, ft3, nil_]; rfl
theorem lp_peers (o : PO) (M' : Mem) (mc ms : Nat)
    (hend : PW G l m_TK_init 77 [some (vR (some TKK)), some (vI (nI 8))] [] (nf (ic2 8) (upR rf (0, 0) ft3) 55) o M' mc ms) :
    ∀ i, i ≤ 8 → PW G l m_TK_init 52 [some (vR (some TKK)), some (vI (nI i))] [] (nf (ic2 i) (upR (upR rf (0, 0) ft3) (0, 6) (pq i)) (7 + 6 * i)) o M' (mc + 6 * (8 - i)) (ms + 54 * (8 - i)) := by
  refine lpU ?_ ?_
  · rw [pq_8, upR_id (by rw [upR_ne (by decide)])]
    refine pw_iload_n d_TK_init_52 rfl ?_
    refine pw_bipush (8) d_TK_init_53 (by decide) ?_
    refine pw_icmp_ge (tgt := 77) d_TK_init_55 (by decide) (fun _ => ?_) (fun hQ => absurd (nI_le (a := 8) (b := 8) (by omega) (by omega)) hQ)
    exact hend
  · intro i hi ih
    have e6 : (nf (ic2 i) (upR (upR rf (0, 0) ft3) (0, 6) (pq i)) (7 + 6 * i)).2.2.1 (0, 0) 3 = some (0, 6) := by simp [nf, upR, ft3, up]
    refine pw_mono (mc := (5 + (mc + 6 * (8 - (i + 1)))) + 1) (ms := (40 + (ms + 54 * (8 - (i + 1)))) + 14) (by omega) (by omega) ?_
    refine pw_iload_n d_TK_init_52 rfl ?_
    refine pw_bipush (8) d_TK_init_53 (by decide) ?_
    refine pw_icmp_ge (tgt := 77) d_TK_init_55 (by decide) (fun hQ => absurd hQ (nI_ge (b := 8) hi (by omega))) (fun _ => ?_)
    refine pw_aload_n d_TK_init_58 rfl ?_
    refine pw_getR d_TK_init_59 f_TK_30 rfl rfl e6 ?_
    refine pw_iload_n d_TK_init_62 rfl ?_
    refine pw_new (ci := 3) (k := (i + 1, 0)) d_TK_init_63 (by decide) g86 g88 g4 (nk_pe i hi 0 (by decide)) (show 7 + 6 * i < 79 by omega) rfl (by decide) ?_
    rw [nf_nw (fun j => by unfold ic2 ic1; simp; omega)]
    refine pw_dup d_TK_init_66 rfl ?_
    have q := pm_PEinit (G := G) (l := l) (I := ic2 i) (R := upR (upR (upR rf (0, 0) ft3) (0, 6) (pq i)) (i + 1, 0) nil_) i hi (fun j a => by unfold ic2 ic1; simp; omega) (fun j hj => by
      rw [upR_ne (fun e => by simp at e; omega), upR_ne (fun e => by simp at e), upR_ne (fun e => by simp at e)]
      funext a
      match j, hj with
      | j + 1, _ => rfl)
    refine c_TK_init_67 (Nat.le_of_ble_eq_true rfl) q ?_
    rw [upR_at, upR2, rfp, upR_id (by rw [upR_ne (fun e => by simp at e), upR_ne (fun e => by simp at e)]), ic2_s]
    refine pw_aastore d_TK_init_70 rfl rfl (vp_in_nI hi (by decide)) ?_
    rw [nI_clamp (by omega), nf_sR, upR_at, upR2, pq_s]
    refine pw_iinc (1) d_TK_init_71 rfl (by decide) (by decide) ?_
    dsimp only [stL, kil, isL, cat]
    refine pw_goto (tgt := 52) d_TK_init_74 (by decide) ?_
    rw [nI_1]
    exact ih
theorem pm_TKinit : PM G l m_TK_init [vR (some TKK)] (nf (fun _ _ => 0) (upR rf (0, 0) nil_) 1) rV (nf (ic2 8) rf 62) 61 628 := by
  refine pm_in [some (vR (some TKK)), none] rfl ?_
  refine pw_mono (mc := 61) (ms := 622) (by decide) (by decide) ?_
  refine pw_aload_n d_TK_init_0 rfl ?_
  refine c_TK_init_1 (Nat.le_of_ble_eq_true rfl) ?_
  refine pw_aload_n d_TK_init_4 rfl ?_
  refine pw_new (mc := 60) (ms := 620) (ci := 1) (k := (0, 1)) d_TK_init_5 (by decide) g24 g25 g2 rfl (Nat.le_of_ble_eq_true rfl) rfl (by decide) ?_
  rw [nf_nw (fun _ => rfl)]
  refine pw_dup d_TK_init_8 rfl ?_
  refine pw_bipush (64) d_TK_init_9 (by decide) ?_
  have q1 := pm_PKinit (G := G) (l := l) (I := fun _ _ => 0) (R := upR (upR rf (0, 0) nil_) (0, 1) nil_) (n := 2) (0, 1) (0, 2) 64 64 rfl rfl rfl (by decide) (by decide) rfl (by decide) (fun _ => rfl) (by rw [upR_ne (by decide), upR_ne (by decide)]; rfl)
  refine c_TK_init_11 (c1 := 1) (s1 := 64) (mc := 59) (ms := 556) (Nat.le_of_ble_eq_true rfl) q1 ?_
  rw [upR_at, upR2, rf1, upR_id (by rw [upR_ne (by decide)])]
  refine pw_putF d_TK_init_14 f_TK_14 rfl rfl rfl rfl rfl (by decide) ?_
  rw [nf_sR, upR_at, upR2]
  refine pw_aload_n d_TK_init_17 rfl ?_
  refine pw_new (mc := 58) (ms := 554) (ci := 1) (k := (0, 3)) d_TK_init_18 (by decide) g24 g25 g2 rfl (Nat.le_of_ble_eq_true rfl) rfl (by decide) ?_
  rw [nf_nw (fun _ => rfl)]
  refine pw_dup d_TK_init_21 rfl ?_
  refine pw_bipush (48) d_TK_init_22 (by decide) ?_
  have q3 := pm_PKinit (G := G) (l := l) (I := fun _ _ => 0) (R := upR (upR rf (0, 0) (up nil_ 0 (some (0, 1)))) (0, 3) nil_) (n := 4) (0, 3) (0, 4) 48 48 rfl rfl rfl (by decide) (by decide) rfl (by decide) (fun _ => rfl) (by rw [upR_ne (by decide), upR_ne (by decide)]; rfl)
  refine c_TK_init_24 (c1 := 1) (s1 := 48) (mc := 57) (ms := 506) (Nat.le_of_ble_eq_true rfl) q3 ?_
  rw [upR_at, upR2, rf3, upR_id (by rw [upR_ne (by decide)])]
  refine pw_putF d_TK_init_27 f_TK_18 rfl rfl rfl rfl rfl (by decide) ?_
  rw [nf_sR, upR_at, upR2]
  refine pw_aload_n d_TK_init_30 rfl ?_
  refine pw_new (mc := 56) (ms := 496) (ci := 2) (k := (0, 5)) d_TK_init_31 (by decide) g40 g41 g3 rfl (Nat.le_of_ble_eq_true rfl) rfl (by decide) ?_
  rw [nf_nw0 (fun _ => rfl) (by rw [upR_ne (by decide)]; rfl)]
  refine pw_dup d_TK_init_34 rfl ?_
  refine c_TK_init_35 (c1 := 0) (s1 := 0) (mc := 56) (ms := 496) (Nat.le_of_ble_eq_true rfl) (pm_TPinit (0, 5) rfl) ?_
  refine pw_putF d_TK_init_38 f_TK_24 rfl rfl rfl rfl rfl (by decide) ?_
  rw [nf_sR, upR_at, upR2]
  refine pw_aload_n d_TK_init_41 rfl ?_
  refine pw_bipush (8) d_TK_init_42 (by decide) ?_
  refine pw_newR (mc := 55) (ms := 488) (k := (0, 6)) d_TK_init_44 g86 ao_peer (by decide) rfl (by decide) rfl (Nat.le_of_ble_eq_true rfl) rfl ?_
  rw [nf_nw (fun _ => rfl)]
  refine pw_putF d_TK_init_47 f_TK_30 rfl rfl rfl rfl rfl (by decide) ?_
  rw [nf_sR, upR_ne (q := (0, 0)) (by decide), upR_at]
  refine pw_iconst 0 d_TK_init_50 (by decide) ?_
  refine pw_istore_n d_TK_init_51 (by decide) ?_
  dsimp only [stL, kil, isL, cat]
  have q := lp_peers (G := G) (l := l) rV (nf (ic2 8) rf 62) 7 56 ?_ 0 (by omega)
  · have e : upR (upR (upR rf (0, 0) (up (up (up nil_ 0 (some (0, 1))) 1 (some (0, 3))) 2 (some (0, 5)))) (0, 6) nil_) (0, 0) (up (up (up (up nil_ 0 (some (0, 1))) 1 (some (0, 3))) 2 (some (0, 5))) 3 (some (0, 6))) = upR (upR rf (0, 0) ft3) (0, 6) (pq 0) := by
      funext a i
      unfold upR
      by_cases h0 : a = (0, 0)
      · subst h0; rfl
      · by_cases h6 : a = (0, 6)
        · subst h6; rfl
        · simp [h0, h6]
    rw [e]
    rw [ic2_0] at q
    exact q
  · refine pw_aload_n d_TK_init_77 rfl ?_
    refine pw_new (mc := 6) (ms := 46) (ci := 4) (k := (0, 7)) d_TK_init_78 (by decide) g147 g148 g5 rfl (Nat.le_of_ble_eq_true rfl) rfl (by decide) ?_
    rw [nf_nw (fun j => by unfold ic2 ic1; simp)]
    refine pw_dup d_TK_init_81 rfl ?_
    refine c_TK_init_82 (c1 := 6) (s1 := 46) (mc := 0) (ms := 0) (Nat.le_of_ble_eq_true rfl) (pm_CHinit (fun j i => by
      by_cases hj : j < 8
      · exact Or.inr hj
      · left
        unfold ic2 ic1
        simp [show ¬ j = 5 by omega]) (fun j h1 h2 => by rw [upR_ne (fun e => by simp at e; omega), upR_ne (fun e => by simp at e; omega)])) ?_
    rw [upR_at, upR2, rf7, upR_id (by rw [upR_ne (by decide)])]
    refine pw_putF d_TK_init_85 f_TK_38 rfl rfl rfl rfl rfl (by decide) ?_
    rw [nf_sR, upR_at, upR2, rf0, upR_id rfl]
    refine pw_return d_TK_init_88 rfl ?_ ?_
    · rfl
    · rfl
def fmo : Nat → Option KK := up (up (up (up (up (up (up (up (up (up (up (up (up (up (up nil_ 1 (some (0, 21))) 3 (some (0, 22))) 10 (some (0, 23))) 11 (some (0, 24))) 12 (some (0, 25))) 13 (some (0, 26))) 14 (some (0, 27))) 15 (some (0, 28))) 16 (some (0, 29))) 17 (some (0, 30))) 18 (some (0, 31))) 19 (some (0, 32))) 20 (some (0, 33))) 21 (some (0, 34))) 31 (some (0, 35))
theorem rf20 : fmo = rf (0, 20) := by
  funext j
  match j with
  | 0 => rfl
  | 1 => rfl
  | 2 => rfl
  | 3 => rfl
  | 4 => rfl
  | 5 => rfl
  | 6 => rfl
  | 7 => rfl
  | 8 => rfl
  | 9 => rfl
  | 10 => rfl
  | 11 => rfl
  | 12 => rfl
  | 13 => rfl
  | 14 => rfl
  | 15 => rfl
  | 16 => rfl
  | 17 => rfl
  | 18 => rfl
  | 19 => rfl
  | 20 => rfl
  | 21 => rfl
  | 22 => rfl
  | 23 => rfl
  | 24 => rfl
  | 25 => rfl
  | 26 => rfl
  | 27 => rfl
  | 28 => rfl
  | 29 => rfl
  | 30 => rfl
  | 31 => rfl
  | j + 32 => simp [fmo, up, nil_]; rfl
def ic3 : KK → Nat → Int32 := fun q i => if q = (0, 20) ∧ i = 33 then 6 else ic2 8 q i
def ic4 (p : Nat) : KK → Nat → Int32 := fun q i => if q = (0, 30) ∧ i < p then -1 else ic3 q i
theorem ic4_0 : ic4 0 = ic3 := by
  funext q i
  unfold ic4
  rw [if_neg (by omega)]
theorem ic4_s (p : Nat) : (fun q i => if q = (0, 30) ∧ i = p then -1 else ic4 p q i) = ic4 (p + 1) := by
  funext q i
  unfold ic4
  by_cases h : q = (0, 30)
  · by_cases h2 : i = p
    · subst h2; simp [h]
    · by_cases h3 : i < p
      · simp [h, h2, h3, show i < p + 1 by omega]
      · simp [h, h2, h3, show ¬ i < p + 1 by omega]
  · simp [h]
theorem lp_look : ∀ i, i ≤ 8 → PW G l m_MO_init 132 [some (vR (some MK)), some (vI (nI i))] [] (nf (ic4 i) rf 78) rV (nf (ic4 8) rf 78) 0 0 := by
  refine lpU ?_ ?_
  · refine pw_iload_n d_MO_init_132 rfl ?_
    refine pw_bipush (8) d_MO_init_133 (by decide) ?_
    refine pw_icmp_ge (tgt := 151) d_MO_init_135 (by decide) (fun _ => ?_) (fun hQ => absurd (nI_le (a := 8) (b := 8) (by omega) (by omega)) hQ)
    refine pw_return d_MO_init_151 rfl ?_ ?_
    · rfl
    · rfl
  · intro i hi ih
    have hr : (nf (ic4 i) rf 78).2.2.1 = rf := rfl
    refine pw_iload_n d_MO_init_132 rfl ?_
    refine pw_bipush (8) d_MO_init_133 (by decide) ?_
    refine pw_icmp_ge (tgt := 151) d_MO_init_135 (by decide) (fun hQ => absurd hQ (nI_ge (b := 8) hi (by omega))) (fun _ => ?_)
    refine pw_aload_n d_MO_init_138 rfl ?_
    refine pw_getR d_MO_init_139 f_MO_38 rfl rfl (rfO hr rfl) ?_
    refine pw_iload_n d_MO_init_142 rfl ?_
    refine pw_iconst (-1) d_MO_init_143 (by decide) ?_
    refine pw_isN (n := i) d_MO_init_144 rfl (by omega) (by decide) ?_
    refine pw_iinc (1) d_MO_init_145 rfl (by decide) (by decide) ?_
    dsimp only [stL, kil, isL, cat]
    refine pw_goto (tgt := 132) d_MO_init_148 (by decide) ?_
    rw [nI_1, nf_sI, ic4_s]
    exact ih
theorem pm_MOinit : PM G l m_MO_init [vR (some MK)] (nf (ic2 8) (upR rf (0, 20) nil_) 63) rV (nf (ic4 8) rf 78) 15 440 := by
  refine pm_in [some (vR (some MK)), none] rfl ?_
  refine pw_mono (mc := 0 + 1 + 1 + 1 + 1 + 1 + 1 + 1 + 1 + 1 + 1 + 1 + 1 + 1 + 1 + 1) (ms := 0 + 8 + 64 + 64 + 64 + 64 + 8 + 8 + 8 + 8 + 8 + 8 + 8 + 8 + 48 + 64) (by decide) (by decide) ?_
  have hI : ∀ j, 21 ≤ j → ∀ i, ic2 8 (0, j) i = 0 := fun j hj i => by
    unfold ic2 ic1
    simp [show ¬ j = 5 by omega]
  have hR : ∀ f j, 21 ≤ j → j ≤ 35 → upR rf (0, 20) f (0, j) = nil_ := fun f j h1 h2 => by
    rw [upR_ne (fun e => by simp at e; omega)]
    obtain ⟨a, rfl⟩ : ∃ a, j = a + 21 := ⟨j - 21, by omega⟩
    rfl
  refine pw_aload_n d_MO_init_0 rfl ?_
  refine c_MO_init_1 (Nat.le_of_ble_eq_true rfl) ?_
  refine pw_aload_n d_MO_init_4 rfl ?_
  refine pw_bipush (64) d_MO_init_5 (by decide) ?_
  refine pw_newI (k := (0, 21)) d_MO_init_7 g39 (by decide) rfl (by decide) rfl (Nat.le_of_ble_eq_true rfl) rfl ?_
  rw [nf_nw0 (hI 21 (by decide)) (hR _ 21 (by decide) (by decide))]
  refine pw_putF d_MO_init_9 f_MO_7 rfl rfl rfl rfl rfl (by decide) ?_
  rw [nf_sR, upR_at, upR2]
  refine pw_aload_n d_MO_init_12 rfl ?_
  refine pw_bipush (48) d_MO_init_13 (by decide) ?_
  refine pw_newI (k := (0, 22)) d_MO_init_15 g39 (by decide) rfl (by decide) rfl (Nat.le_of_ble_eq_true rfl) rfl ?_
  rw [nf_nw0 (hI 22 (by decide)) (hR _ 22 (by decide) (by decide))]
  refine pw_putF d_MO_init_17 f_MO_13 rfl rfl rfl rfl rfl (by decide) ?_
  rw [nf_sR, upR_at, upR2]
  refine pw_aload_n d_MO_init_20 rfl ?_
  refine pw_bipush (8) d_MO_init_21 (by decide) ?_
  refine pw_newL (k := (0, 23)) d_MO_init_23 g146 (by decide) rfl (by decide) rfl (Nat.le_of_ble_eq_true rfl) rfl ?_
  rw [nf_nw0 (hI 23 (by decide)) (hR _ 23 (by decide) (by decide))]
  refine pw_putF d_MO_init_25 f_MO_16 rfl rfl rfl rfl rfl (by decide) ?_
  rw [nf_sR, upR_at, upR2]
  refine pw_aload_n d_MO_init_28 rfl ?_
  refine pw_bipush (8) d_MO_init_29 (by decide) ?_
  refine pw_newL (k := (0, 24)) d_MO_init_31 g146 (by decide) rfl (by decide) rfl (Nat.le_of_ble_eq_true rfl) rfl ?_
  rw [nf_nw0 (hI 24 (by decide)) (hR _ 24 (by decide) (by decide))]
  refine pw_putF d_MO_init_33 f_MO_20 rfl rfl rfl rfl rfl (by decide) ?_
  rw [nf_sR, upR_at, upR2]
  refine pw_aload_n d_MO_init_36 rfl ?_
  refine pw_bipush (8) d_MO_init_37 (by decide) ?_
  refine pw_newI (k := (0, 25)) d_MO_init_39 g39 (by decide) rfl (by decide) rfl (Nat.le_of_ble_eq_true rfl) rfl ?_
  rw [nf_nw0 (hI 25 (by decide)) (hR _ 25 (by decide) (by decide))]
  refine pw_putF d_MO_init_41 f_MO_23 rfl rfl rfl rfl rfl (by decide) ?_
  rw [nf_sR, upR_at, upR2]
  refine pw_aload_n d_MO_init_44 rfl ?_
  refine pw_bipush (8) d_MO_init_45 (by decide) ?_
  refine pw_newI (k := (0, 26)) d_MO_init_47 g39 (by decide) rfl (by decide) rfl (Nat.le_of_ble_eq_true rfl) rfl ?_
  rw [nf_nw0 (hI 26 (by decide)) (hR _ 26 (by decide) (by decide))]
  refine pw_putF d_MO_init_49 f_MO_26 rfl rfl rfl rfl rfl (by decide) ?_
  rw [nf_sR, upR_at, upR2]
  refine pw_aload_n d_MO_init_52 rfl ?_
  refine pw_bipush (8) d_MO_init_53 (by decide) ?_
  refine pw_newL (k := (0, 27)) d_MO_init_55 g146 (by decide) rfl (by decide) rfl (Nat.le_of_ble_eq_true rfl) rfl ?_
  rw [nf_nw0 (hI 27 (by decide)) (hR _ 27 (by decide) (by decide))]
  refine pw_putF d_MO_init_57 f_MO_29 rfl rfl rfl rfl rfl (by decide) ?_
  rw [nf_sR, upR_at, upR2]
  refine pw_aload_n d_MO_init_60 rfl ?_
  refine pw_bipush (8) d_MO_init_61 (by decide) ?_
  refine pw_newL (k := (0, 28)) d_MO_init_63 g146 (by decide) rfl (by decide) rfl (Nat.le_of_ble_eq_true rfl) rfl ?_
  rw [nf_nw0 (hI 28 (by decide)) (hR _ 28 (by decide) (by decide))]
  refine pw_putF d_MO_init_65 f_MO_32 rfl rfl rfl rfl rfl (by decide) ?_
  rw [nf_sR, upR_at, upR2]
  refine pw_aload_n d_MO_init_68 rfl ?_
  refine pw_bipush (8) d_MO_init_69 (by decide) ?_
  refine pw_newI (k := (0, 29)) d_MO_init_71 g39 (by decide) rfl (by decide) rfl (Nat.le_of_ble_eq_true rfl) rfl ?_
  rw [nf_nw0 (hI 29 (by decide)) (hR _ 29 (by decide) (by decide))]
  refine pw_putF d_MO_init_73 f_MO_35 rfl rfl rfl rfl rfl (by decide) ?_
  rw [nf_sR, upR_at, upR2]
  refine pw_aload_n d_MO_init_76 rfl ?_
  refine pw_bipush (8) d_MO_init_77 (by decide) ?_
  refine pw_newI (k := (0, 30)) d_MO_init_79 g39 (by decide) rfl (by decide) rfl (Nat.le_of_ble_eq_true rfl) rfl ?_
  rw [nf_nw0 (hI 30 (by decide)) (hR _ 30 (by decide) (by decide))]
  refine pw_putF d_MO_init_81 f_MO_38 rfl rfl rfl rfl rfl (by decide) ?_
  rw [nf_sR, upR_at, upR2]
  refine pw_aload_n d_MO_init_84 rfl ?_
  refine pw_bipush (64) d_MO_init_85 (by decide) ?_
  refine pw_newL (k := (0, 31)) d_MO_init_87 g146 (by decide) rfl (by decide) rfl (Nat.le_of_ble_eq_true rfl) rfl ?_
  rw [nf_nw0 (hI 31 (by decide)) (hR _ 31 (by decide) (by decide))]
  refine pw_putF d_MO_init_89 f_MO_41 rfl rfl rfl rfl rfl (by decide) ?_
  rw [nf_sR, upR_at, upR2]
  refine pw_aload_n d_MO_init_92 rfl ?_
  refine pw_bipush (64) d_MO_init_93 (by decide) ?_
  refine pw_newL (k := (0, 32)) d_MO_init_95 g146 (by decide) rfl (by decide) rfl (Nat.le_of_ble_eq_true rfl) rfl ?_
  rw [nf_nw0 (hI 32 (by decide)) (hR _ 32 (by decide) (by decide))]
  refine pw_putF d_MO_init_97 f_MO_44 rfl rfl rfl rfl rfl (by decide) ?_
  rw [nf_sR, upR_at, upR2]
  refine pw_aload_n d_MO_init_100 rfl ?_
  refine pw_bipush (64) d_MO_init_101 (by decide) ?_
  refine pw_newL (k := (0, 33)) d_MO_init_103 g146 (by decide) rfl (by decide) rfl (Nat.le_of_ble_eq_true rfl) rfl ?_
  rw [nf_nw0 (hI 33 (by decide)) (hR _ 33 (by decide) (by decide))]
  refine pw_putF d_MO_init_105 f_MO_47 rfl rfl rfl rfl rfl (by decide) ?_
  rw [nf_sR, upR_at, upR2]
  refine pw_aload_n d_MO_init_108 rfl ?_
  refine pw_bipush (64) d_MO_init_109 (by decide) ?_
  refine pw_newI (k := (0, 34)) d_MO_init_111 g39 (by decide) rfl (by decide) rfl (Nat.le_of_ble_eq_true rfl) rfl ?_
  rw [nf_nw0 (hI 34 (by decide)) (hR _ 34 (by decide) (by decide))]
  refine pw_putF d_MO_init_113 f_MO_50 rfl rfl rfl rfl rfl (by decide) ?_
  rw [nf_sR, upR_at, upR2]
  refine pw_aload_n d_MO_init_116 rfl ?_
  refine pw_bipush (8) d_MO_init_117 (by decide) ?_
  refine pw_newI (k := (0, 35)) d_MO_init_119 g39 (by decide) rfl (by decide) rfl (Nat.le_of_ble_eq_true rfl) rfl ?_
  rw [nf_nw0 (hI 35 (by decide)) (hR _ 35 (by decide) (by decide))]
  refine pw_putF d_MO_init_121 f_MO_53 rfl rfl rfl rfl rfl (by decide) ?_
  rw [nf_sR, upR_at, upR2]
  rw [show up (up (up (up (up (up (up (up (up (up (up (up (up (up (up nil_ 1 (some (0, 21))) 3 (some (0, 22))) 10 (some (0, 23))) 11 (some (0, 24))) 12 (some (0, 25))) 13 (some (0, 26))) 14 (some (0, 27))) 15 (some (0, 28))) 16 (some (0, 29))) 17 (some (0, 30))) 18 (some (0, 31))) 19 (some (0, 32))) 20 (some (0, 33))) 21 (some (0, 34))) 31 (some (0, 35)) = rf (0, 20) from rf20, upR_id rfl]
  refine pw_aload_n d_MO_init_124 rfl ?_
  refine pw_bipush (6) d_MO_init_125 (by decide) ?_
  refine pw_putI d_MO_init_127 f_MO_56 rfl rfl rfl ?_
  rw [nf_sI]
  refine pw_iconst 0 d_MO_init_130 (by decide) ?_
  refine pw_istore_n d_MO_init_131 (by decide) ?_
  dsimp only [stL, kil, isL, cat]
  have q := lp_look (G := G) (l := l) 0 (by omega)
  rw [ic4_0] at q
  exact q
end CT
