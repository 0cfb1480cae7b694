/-! the choice, whole -/
/-- two memories that differ in the choice and its row alone -/
def FC (M N : Mem) : Prop := N.2.2 = M.2.2 ∧ ∀ k, ¬ isRow k → k ≠ CHK → N.1 k = M.1 k ∧ N.2.1 k = M.2.1 k
theorem FR.fc {M N : Mem} (h : FR M N) : FC M N := ⟨h.1, fun k h1 _ => h.2 k h1⟩
theorem FC.trans {M N K : Mem} (h1 : FC M N) (h2 : FC N K) : FC M K := ⟨h2.1.trans h1.1, fun k hk hc => ⟨(h2.2 k hk hc).1.trans (h1.2 k hk hc).1, (h2.2 k hk hc).2.trans (h1.2 k hk hc).2⟩⟩
theorem FC_sI {M : Mem} {j : Nat} {x : Int32} : FC M (sI M CHK j x) := ⟨rfl, fun k _ hc => ⟨by funext i; simp [sI, hc], rfl⟩⟩
theorem FC_sL {M : Mem} {j : Nat} {x : Int64} : FC M (sL M CHK j x) := ⟨rfl, fun k _ hc => ⟨rfl, by funext i; simp [sL, hc]⟩⟩
theorem nRc : ¬ isRow CHK := fun h => by have := h.2.1; simp at this
theorem FR.c1 {M N : Mem} (h : FR M N) : N.1 CHK = M.1 CHK := (h.2 CHK nRc).1
theorem FR.c2 {M N : Mem} (h : FR M N) : N.2.1 CHK = M.2.1 CHK := (h.2 CHK nRc).2
theorem sI_c1 {M : Mem} {j : Nat} {x : Int32} {k : KK} : (sI M k j x).1 k = up (M.1 k) j x := by funext i; simp [sI, up]
theorem sL_c2 {M : Mem} {j : Nat} {x : Int64} {k : KK} : (sL M k j x).2.1 k = up (M.2.1 k) j x := by funext i; simp [sL, up]
theorem sI_c2 {M : Mem} {j : Nat} {x : Int32} {k q : KK} : (sI M k j x).2.1 q = M.2.1 q := rfl
theorem sL_c1 {M : Mem} {j : Nat} {x : Int64} {k q : KK} : (sL M k j x).1 q = M.1 q := rfl
theorem th_sub {V : VV} : ∀ k ns, ∀ x ∈ thN V k ns, x ∈ ns
  | 0, ns, x, h => h
  | k + 1, ns, x, h => by
    rw [thN] at h
    split at h
    · exact List.mem_of_mem_eraseIdx (th_sub k _ x h)
    · exact h
theorem th_pos {V : VV} : ∀ k ns, 0 < ns.length → 0 < (thN V k ns).length
  | 0, ns, h => h
  | k + 1, ns, h => by
    rw [thN]
    split
    · rename_i hc
      refine th_pos k _ ?_
      rw [List.length_eraseIdx]
      split <;> omega
    · exact h
/-- two ways to tell the peers' numbers that agree on a list -/
def vAg (V W : VV) (ns : List Nat) : Prop := ∀ x ∈ ns, sV V x = sV W x ∧ oV V x = oV W x ∧ dV V x = dV W x ∧ jV V x = jV W x
theorem row_ag {V W : VV} {M : Mem} {ns : List Nat} (h : vAg V W ns) (hR : RowL W M ns) : RowL V M ns := ⟨hR.1, hR.2.1, fun i x hx => by
  obtain ⟨a1, a2, a3, a4⟩ := h x (get_mem hx)
  rw [a1, a2, a3, a4]
  exact hR.2.2 i x hx⟩
section CZ
variable {G : GG} {l : Launch} {M : Mem}
theorem rg_up {P : Nat → Bool} : ((List.range 8).filter P).Pairwise (· < ·) := List.Pairwise.filter _ List.pairwise_lt_range
theorem rg_lt {P : Nat → Bool} {x : Nat} (h : x ∈ (List.range 8).filter P) : x < 8 := List.mem_range.mp (List.mem_filter.mp h).1
theorem choose_n (hM : M.2.2.1 = rf) (cn : Nat → Nat) (os : Nat → Nat → Nat) (u : Int32) (hP : PEs M cn os) (V : VV) (ns : List Nat) (hns : ns = (List.range 8).filter (cnd M cn (cVV M cn os u))) (hV : vAg V (cVV M cn os u) ns) (hno : ∀ g, 2 * g < ns.length → ¬ ag V ns g) :
    ∃ N, FC M N ∧ N.1 CHK = up (up (up (M.1 CHK) 1 (nI (msk ns))) 2 0) 3 0 ∧ N.2.1 CHK = M.2.1 CHK ∧ PM G l m_CH_choose [vR (some CHK), vR (some (0, 6)), vI u] M (rI 0) N 0 0 := by
  obtain ⟨N1, f1, r1, w1⟩ := pm_gather (G := G) (l := l) hM cn os u hP
  rw [← hns] at r1
  replace r1 := row_ag hV r1
  have hN1 := f1.rf hM
  refine ⟨sI (sI (sI N1 CHK 1 (nI (msk ns))) CHK 2 0) CHK 3 0, f1.fc.trans (FC_sI.trans (FC_sI.trans FC_sI)), by rw [sI_c1, sI_c1, sI_c1, f1.c1], by rw [sI_c2, sI_c2, sI_c2, f1.c2], ?_⟩
  refine pm_in [some (vR (some CHK)), some (vR (some (0, 6))), some (vI u)] rfl ?_
  have hb := pm_bits (G := G) (l := l) hN1 r1 (fun x hx => by rw [hns] at hx; exact rg_lt hx)
  have hf := pm_find_n (G := G) (l := l) (M := sI (sI (sI N1 CHK 1 (nI (msk ns))) CHK 2 0) CHK 3 0) hN1 (row_cI (row_cI (row_cI r1))) hno
  refine pw_aload_n d_CH_choose_0 rfl ?_
  refine pw_getR d_CH_choose_1 f_CH_12 rfl rfl (rfO hM rfl) ?_
  refine pw_aload_n d_CH_choose_4 rfl ?_
  refine pw_iload_n d_CH_choose_5 rfl ?_
  refine c_CH_choose_6 rfl (Nat.le_of_ble_eq_true rfl) w1 ?_
  refine pw_aload_n d_CH_choose_9 rfl ?_
  refine pw_aload_n d_CH_choose_10 rfl ?_
  refine pw_getR d_CH_choose_11 f_CH_12 rfl rfl (rfO hN1 rfl) ?_
  refine c_CH_choose_14 rfl (Nat.le_of_ble_eq_true rfl) hb ?_
  refine pw_putI d_CH_choose_17 f_CH_26 rfl rfl rfl ?_
  refine pw_aload_n d_CH_choose_20 rfl ?_
  refine pw_iconst 0 d_CH_choose_21 (by decide) ?_
  refine pw_putI d_CH_choose_22 f_CH_30 rfl rfl rfl ?_
  refine pw_aload_n d_CH_choose_25 rfl ?_
  refine pw_iconst 0 d_CH_choose_26 (by decide) ?_
  refine pw_putI d_CH_choose_27 f_CH_33 rfl rfl rfl ?_
  refine pw_aload_n d_CH_choose_30 rfl ?_
  refine c_CH_choose_31 rfl (Nat.le_of_ble_eq_true rfl) hf ?_
  refine pw_if_ne (tgt := 39) d_CH_choose_34 (by decide) (fun hQ => absurd ((by decide)) hQ) (fun _ => ?_)
  refine pw_iconst 0 d_CH_choose_37 (by decide) ?_
  refine pw_zreturn d_CH_choose_38 rfl ?_ ?_ ?_
  · exact Or.inl rfl
  · rfl
  · rfl
theorem choose_y (hM : M.2.2.1 = rf) (cn : Nat → Nat) (os : Nat → Nat → Nat) (u : Int32) (hP : PEs M cn os) (V : VV) (ns : List Nat) (hns : ns = (List.range 8).filter (cnd M cn (cVV M cn os u))) (hV : vAg V (cVV M cn os u) ns) (f : Nat) (h2 : 2 * f < ns.length) (ha : ag V ns f) (hmin : ∀ g, g < f → ¬ ag V ns g)
    (L H : Int64) (hL : L = agL V ns (ns.length - f) ns) (hH : H = agH V ns (ns.length - f) ns) (n2 : List Nat) (hn2 : n2 = ns.filter (inO V L H))
    (hB : ∀ x ∈ ns, oB (oV V x)) (hD : ∀ x ∈ ns, 0 < dV V x) (hMn : ∀ t : List Nat, t.length ≤ 8 → 0 < t.length → (∀ x ∈ t, x ∈ ns) → 0 < mnW V t ∧ oB (mnO V t)) :
    ∃ N t, t.Pairwise (Rk V) ∧ (∀ y, y ∈ t ↔ y ∈ n2) ∧ t.length ≤ 8 ∧ 0 < t.length ∧ FC M N ∧
      N.1 CHK = up (up (up (up (up (up (up (M.1 CHK) 1 (nI (msk ns))) 2 0) 3 0) 2 (nI (msk n2))) 3 (nI (msk (thN V 8 t)))) 7 (sV V (atL (thN V 8 t) 0) + 1)) 4 1 ∧
      N.2.1 CHK = up (up (up (up (M.2.1 CHK) 8 L) 9 H) 5 (mnO V (thN V 8 t))) 6 (cjV V (thN V 8 t)) ∧
      PM G l m_CH_choose [vR (some CHK), vR (some (0, 6)), vI u] M (rI 1) N 0 0 := by
  obtain ⟨N1, f1, r1, w1⟩ := pm_gather (G := G) (l := l) hM cn os u hP
  rw [← hns] at r1
  replace r1 := row_ag hV r1
  have hN1 := f1.rf hM
  have h8 : ∀ x ∈ ns, x < 8 := fun x hx => by rw [hns] at hx; exact rg_lt hx
  have hb := pm_bits (G := G) (l := l) hN1 r1 h8
  have hf := pm_find_y (G := G) (l := l) (M := sI (sI (sI N1 CHK 1 (nI (msk ns))) CHK 2 0) CHK 3 0) hN1 (row_cI (row_cI (row_cI r1))) f h2 ha hmin
  rw [← hL, ← hH] at hf
  have r3 : RowL V (sL (sL (sI (sI (sI N1 CHK 1 (nI (msk ns))) CHK 2 0) CHK 3 0) CHK 8 L) CHK 9 H) ns := row_cL (row_cL (row_cI (row_cI (row_cI r1))))
  have e1 : (sL (sL (sI (sI (sI N1 CHK 1 (nI (msk ns))) CHK 2 0) CHK 3 0) CHK 8 L) CHK 9 H).1 CHK = up (up (up (M.1 CHK) 1 (nI (msk ns))) 2 0) 3 0 := by
    rw [sL_c1, sL_c1, sI_c1, sI_c1, sI_c1, f1.c1]
  have e2 : (sL (sL (sI (sI (sI N1 CHK 1 (nI (msk ns))) CHK 2 0) CHK 3 0) CHK 8 L) CHK 9 H).2.1 CHK = up (up (M.2.1 CHK) 8 L) 9 H := by
    rw [sL_c2, sL_c2, sI_c2, sI_c2, sI_c2, f1.c2]
  have f3 : FC M (sL (sL (sI (sI (sI N1 CHK 1 (nI (msk ns))) CHK 2 0) CHK 3 0) CHK 8 L) CHK 9 H) := f1.fc.trans (FC_sI.trans (FC_sI.trans (FC_sI.trans (FC_sL.trans FC_sL))))
  have hN3 : (sL (sL (sI (sI (sI N1 CHK 1 (nI (msk ns))) CHK 2 0) CHK 3 0) CHK 8 L) CHK 9 H).2.2.1 = rf := hN1
  generalize hN3e : sL (sL (sI (sI (sI N1 CHK 1 (nI (msk ns))) CHK 2 0) CHK 3 0) CHK 8 L) CHK 9 H = N3 at *
  obtain ⟨N4, f4, r4, w4⟩ := pm_keep (G := G) (l := l) hN3 r3 L H
  rw [← hn2] at r4
  have hN4 := f4.rf hN3
  have s2 : ∀ x ∈ n2, x ∈ ns := fun x hx => by rw [hn2] at hx; exact (List.mem_filter.mp hx).1
  have hb4 := pm_bits (G := G) (l := l) hN4 r4 (fun x hx => h8 x (s2 x hx))
  have r5 : RowL V (sI N4 CHK 2 (nI (msk n2))) n2 := row_cI r4
  have hup : n2.Pairwise (· < ·) := by
    rw [hn2, hns]
    exact List.Pairwise.filter _ rg_up
  obtain ⟨N6, t, f6, r6, p6, m6, w6⟩ := pm_sortRank (G := G) (l := l) (M := sI N4 CHK 2 (nI (msk n2))) hN4 r5 hup
  have hN6 : N6.2.2.1 = rf := f6.rf hN4
  have st : ∀ x ∈ t, x ∈ ns := fun x hx => s2 x ((m6 x).mp hx)
  obtain ⟨N7, f7, r7, w7⟩ := pm_thin (G := G) (l := l) hN6 r6 (fun x hx => hB x (st x hx))
  have hN7 := f7.rf hN6
  have s7 : ∀ x ∈ thN V 8 t, x ∈ ns := fun x hx => st x (th_sub 8 t x hx)
  have hb7 := pm_bits (G := G) (l := l) hN7 r7 (fun x hx => h8 x (s7 x hx))
  have ht0 : 0 < t.length := by
    have hc := ha.2
    rw [← hL, ← hH, List.countP_eq_length_filter, ← hn2] at hc
    obtain ⟨x, hx⟩ := get_lt (l := n2) (i := 0) (by omega)
    have := (m6 x).mpr (get_mem hx)
    exact List.length_pos_of_mem this
  have h70 := th_pos (V := V) 8 t ht0
  obtain ⟨hW, hO⟩ := hMn (thN V 8 t) r7.2.1 h70 s7
  have r8 : RowL V (sI N7 CHK 3 (nI (msk (thN V 8 t)))) (thN V 8 t) := row_cI r7
  have hcon := pm_conclude (G := G) (l := l) (M := sI N7 CHK 3 (nI (msk (thN V 8 t)))) hN7 r8 h70 (fun x hx => hB x (s7 x hx)) (fun x hx => hD x (s7 x hx)) hW hO
  refine ⟨sI (sI (sL (sL (sI N7 CHK 3 (nI (msk (thN V 8 t)))) CHK 5 (mnO V (thN V 8 t))) CHK 6 (cjV V (thN V 8 t))) CHK 7 (sV V (atL (thN V 8 t) 0) + 1)) CHK 4 1, t, p6, m6, r6.2.1, ht0, ?_, ?_, ?_, ?_⟩
  rotate_right 1
  · refine pm_in [some (vR (some CHK)), some (vR (some (0, 6))), some (vI u)] rfl ?_
    refine pw_aload_n d_CH_choose_0 rfl ?_
    refine pw_getR d_CH_choose_1 f_CH_12 rfl rfl (rfO hM rfl) ?_
    refine pw_aload_n d_CH_choose_4 rfl ?_
    refine pw_iload_n d_CH_choose_5 rfl ?_
    refine c_CH_choose_6 rfl (Nat.le_of_ble_eq_true rfl) w1 ?_
    refine pw_aload_n d_CH_choose_9 rfl ?_
    refine pw_aload_n d_CH_choose_10 rfl ?_
    refine pw_getR d_CH_choose_11 f_CH_12 rfl rfl (rfO hN1 rfl) ?_
    refine c_CH_choose_14 rfl (Nat.le_of_ble_eq_true rfl) hb ?_
    refine pw_putI d_CH_choose_17 f_CH_26 rfl rfl rfl ?_
    refine pw_aload_n d_CH_choose_20 rfl ?_
    refine pw_iconst 0 d_CH_choose_21 (by decide) ?_
    refine pw_putI d_CH_choose_22 f_CH_30 rfl rfl rfl ?_
    refine pw_aload_n d_CH_choose_25 rfl ?_
    refine pw_iconst 0 d_CH_choose_26 (by decide) ?_
    refine pw_putI d_CH_choose_27 f_CH_33 rfl rfl rfl ?_
    refine pw_aload_n d_CH_choose_30 rfl ?_
    refine c_CH_choose_31 rfl (Nat.le_of_ble_eq_true rfl) hf ?_
    refine pw_if_ne (tgt := 39) d_CH_choose_34 (by decide) (fun _ => ?_) (fun hQ => absurd hQ ((by decide)))
    refine pw_aload_n d_CH_choose_39 rfl ?_
    refine pw_getR d_CH_choose_40 f_CH_12 rfl rfl (rfO hN3 rfl) ?_
    refine pw_aload_n d_CH_choose_43 rfl ?_
    refine pw_getL d_CH_choose_44 f_CH_40 rfl rfl ?_
    rw [show N3.2.1 CHK 8 = L from by rw [e2]; simp [up]]
    refine pw_aload_n d_CH_choose_47 rfl ?_
    refine pw_getL d_CH_choose_48 f_CH_44 rfl rfl ?_
    rw [show N3.2.1 CHK 9 = H from by rw [e2]; simp [up]]
    refine c_CH_choose_51 rfl (Nat.le_of_ble_eq_true rfl) w4 ?_
    refine pw_aload_n d_CH_choose_54 rfl ?_
    refine pw_aload_n d_CH_choose_55 rfl ?_
    refine pw_getR d_CH_choose_56 f_CH_12 rfl rfl (rfO hN4 rfl) ?_
    refine c_CH_choose_59 rfl (Nat.le_of_ble_eq_true rfl) hb4 ?_
    refine pw_putI d_CH_choose_62 f_CH_30 rfl rfl rfl ?_
    refine pw_aload_n d_CH_choose_65 rfl ?_
    refine pw_getR d_CH_choose_66 f_CH_12 rfl rfl (rfO hN4 rfl) ?_
    refine c_CH_choose_69 rfl (Nat.le_of_ble_eq_true rfl) w6 ?_
    refine pw_aload_n d_CH_choose_72 rfl ?_
    refine c_CH_choose_73 rfl (Nat.le_of_ble_eq_true rfl) w7 ?_
    refine pw_aload_n d_CH_choose_76 rfl ?_
    refine pw_aload_n d_CH_choose_77 rfl ?_
    refine pw_getR d_CH_choose_78 f_CH_12 rfl rfl (rfO hN7 rfl) ?_
    refine c_CH_choose_81 rfl (Nat.le_of_ble_eq_true rfl) hb7 ?_
    refine pw_putI d_CH_choose_84 f_CH_33 rfl rfl rfl ?_
    refine pw_aload_n d_CH_choose_87 rfl ?_
    refine c_CH_choose_88 rfl (Nat.le_of_ble_eq_true rfl) hcon ?_
    refine pw_iconst 1 d_CH_choose_91 (by decide) ?_
    refine pw_zreturn d_CH_choose_92 rfl ?_ ?_ ?_
    · exact Or.inr rfl
    · rfl
    · rfl
  · exact f3.trans (f4.fc.trans (FC_sI.trans (f6.fc.trans (f7.fc.trans (FC_sI.trans (FC_sL.trans (FC_sL.trans (FC_sI.trans FC_sI))))))))
  · rw [sI_c1, sI_c1, sL_c1, sL_c1, sI_c1, f7.c1, f6.c1, sI_c1, f4.c1, e1]
  · rw [sI_c2, sI_c2, sL_c2, sL_c2, sI_c2, f7.c2, f6.c2, sI_c2, f4.c2, e2]
end CZ
