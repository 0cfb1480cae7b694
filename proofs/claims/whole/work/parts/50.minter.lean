/-! the reference: which can be right together -/
def miS (V : VV) (ns : List Nat) (nd : Nat) (s : Option Int64) (x : Nat) : Option Int64 := if nd ≤ ns.countP (inI V (loV V x)) then (match s with | none => some (loV V x) | some a => if loV V x < a then some (loV V x) else some a) else s
def maS (V : VV) (ns : List Nat) (nd : Nat) (s : Option Int64) (x : Nat) : Option Int64 := if nd ≤ ns.countP (inI V (hiV V x)) then (match s with | none => some (hiV V x) | some a => if a < hiV V x then some (hiV V x) else some a) else s
def miN (V : VV) (ns : List Nat) (nd : Nat) (l : List Nat) : Option Int64 := l.foldl (miS V ns nd) none
def maN (V : VV) (ns : List Nat) (nd : Nat) (l : List Nat) : Option Int64 := l.foldl (maS V ns nd) none
def fo : Option Int64 → Int32
  | none => 0
  | some _ => 1
def va (s : Option Int64) : Int64 := s.getD 0
theorem fold_y {α : Type} {g : α → Nat → α} {a : α} {l : List Nat} {i : Nat} : (l ++ [i]).foldl g a = g (l.foldl g a) i := by rw [List.foldl_append]; rfl
section MI
variable {G : GG} {l : Launch} {M : Mem}
theorem lp_int1 (hM : M.2.2.1 = rf) {cm : Nat → Nat} (hP : MPs M cm) {m : Nat} {P : Nat → Bool} (hm : bts m P) (hC : M.1 MK 22 = nI m) (h0 : ∀ p, p < 8 → P p = true → 0 < cm p) (f nd : Nat) (hnd : nd ≤ 8) (o : PO) (M' : Mem) (V : VV) (hV : V = mVV M cm) (ns : List Nat) (hns : ns = rgf P 8)
    (hend : ∀ x10 x12 : Option PV, PW G l m_MO_intersect 137 [some (vR (some MK)), some (vI (nI f)), some (vI (nI nd)), some (vI (fo (miN V ns nd ns))), some (vI (fo (maN V ns nd ns))), some (vL (va (miN V ns nd ns))), none, some (vL (va (maN V ns nd ns))), none, some (vI (nI 8)), x10, none, x12, none] [] M o M' 0 0) :
    ∀ i, i ≤ 8 → ∀ x10 x12 : Option PV, PW G l m_MO_intersect 24 [some (vR (some MK)), some (vI (nI f)), some (vI (nI nd)), some (vI (fo (miN V ns nd (rgf P i)))), some (vI (fo (maN V ns nd (rgf P i)))), some (vL (va (miN V ns nd (rgf P i)))), none, some (vL (va (maN V ns nd (rgf P i)))), none, some (vI (nI i)), x10, none, x12, none] [] M o M' 0 0 := by
  have hlen : ns.length ≤ 8 := by rw [hns]; exact rgf_len
  refine lpU ?_ ?_
  · intro x10 x12
    rw [← hns]
    refine pw_iload d_MO_intersect_24 rfl ?_
    refine pw_bipush (8) d_MO_intersect_26 (by decide) ?_
    refine pw_icmp_ge (tgt := 137) d_MO_intersect_28 (by decide) (fun _ => ?_) (fun hQ => absurd (nI_le (a := 8) (b := 8) (by omega) (by omega)) hQ)
    exact hend _ _
  · intro i hi ih x10 x12
    refine pw_iload d_MO_intersect_24 rfl ?_
    refine pw_bipush (8) d_MO_intersect_26 (by decide) ?_
    refine pw_icmp_ge (tgt := 137) d_MO_intersect_28 (by decide) (fun hQ => absurd hQ (nI_ge (b := 8) hi (by omega))) (fun _ => ?_)
    refine pw_aload_n d_MO_intersect_31 rfl ?_
    refine pw_getI d_MO_intersect_32 f_MO_200 rfl rfl ?_
    rw [hC]
    by_cases h : P i = true
    · have hc := h0 i hi h
      rw [rgf_y h] at ih
      unfold miN maN at ih
      rw [fold_y, fold_y] at ih
      change ∀ x10 x12 : Option PV, PW G l m_MO_intersect 24 [some (vR (some MK)), some (vI (nI f)), some (vI (nI nd)), some (vI (fo (miS V ns nd (miN V ns nd (rgf P i)) i))), some (vI (fo (maS V ns nd (maN V ns nd (rgf P i)) i))), some (vL (va (miS V ns nd (miN V ns nd (rgf P i)) i))), none, some (vL (va (maS V ns nd (maN V ns nd (rgf P i)) i))), none, some (vI (nI (i + 1))), x10, none, x12, none] [] M o M' 0 0 at ih
      generalize miN V ns nd (rgf P i) = s at *
      generalize maN V ns nd (rgf P i) = t at *
      have e1 : oV (mVV M cm) i - dV (mVV M cm) i = loV V i := by rw [hV]
      have e2 : oV (mVV M cm) i + dV (mVV M cm) i = hiV V i := by rw [hV]
      have k1 := mo_hold (G := G) (l := l) hM hP hm hC h0 (loV V i)
      have k2 := mo_hold (G := G) (l := l) hM hP hm hC h0 (hiV V i)
      change PM G l m_MO_holding _ M (rI (nI (List.countP _ (rgf P 8)))) M 0 0 at k1
      rw [← hns, ← hV] at k1 k2
      have c1 := cnt_len (f := inI V (loV V i)) (ns := ns)
      have c2 := cnt_len (f := inI V (hiV V i)) (ns := ns)
      -- the second half
      have half : ∀ s' : Option Int64, (∀ x10 x12 : Option PV, PW G l m_MO_intersect 24 [some (vR (some MK)), some (vI (nI f)), some (vI (nI nd)), some (vI (fo s')), some (vI (fo (maS V ns nd t i))), some (vL (va s')), none, some (vL (va (maS V ns nd t i))), none, some (vI (nI (i + 1))), x10, none, x12, none] [] M o M' 0 0) → PW G l m_MO_intersect 101 [some (vR (some MK)), some (vI (nI f)), some (vI (nI nd)), some (vI (fo s')), some (vI (fo t)), some (vL (va s')), none, some (vL (va t)), none, some (vI (nI i)), some (vL (loV V i)), none, some (vL (hiV V i)), none] [] M o M' 0 0 := by
        intro s' hk
        refine pw_aload_n d_MO_intersect_101 rfl ?_
        refine pw_lload d_MO_intersect_102 rfl ?_
        refine c_MO_intersect_104 rfl (Nat.le_of_ble_eq_true rfl) k2 ?_
        refine pw_iload_n d_MO_intersect_107 rfl ?_
        by_cases hh : nd ≤ ns.countP (inI V (hiV V i))
        · refine pw_icmp_lt (tgt := 131) d_MO_intersect_108 (by decide) (fun hQ => absurd hQ ((nI_nlt hh (by omega)))) (fun _ => ?_)
          have hk2 := hk
          unfold maS at hk2
          rw [if_pos hh] at hk2
          cases t with
          | none =>
            refine pw_iload d_MO_intersect_111 rfl ?_
            refine pw_if_eq (tgt := 124) d_MO_intersect_113 (by decide) (fun _ => ?_) (fun hQ => absurd (rfl) hQ)
            refine pw_lload d_MO_intersect_124 rfl ?_
            refine pw_lstore d_MO_intersect_126 (by decide) ?_
            dsimp only [stL, kil, isL, cat]
            refine pw_iconst 1 d_MO_intersect_128 (by decide) ?_
            refine pw_istore d_MO_intersect_129 (by decide) ?_
            dsimp only [stL, kil, isL, cat]
            refine pw_iinc (1) d_MO_intersect_131 rfl (by decide) (by decide) ?_
            dsimp only [stL, kil, isL, cat]
            refine pw_goto (tgt := 24) d_MO_intersect_134 (by decide) ?_
            rw [nI_1]
            exact hk2 _ _
          | some b =>
            refine pw_iload d_MO_intersect_111 rfl ?_
            refine pw_if_eq (tgt := 124) d_MO_intersect_113 (by decide) (fun hQ => absurd hQ ((show ¬ (1 : Int32) = 0 by decide))) (fun _ => ?_)
            refine pw_lload d_MO_intersect_116 rfl ?_
            refine pw_lload d_MO_intersect_118 rfl ?_
            refine pw_lcmp d_MO_intersect_120 ?_
            by_cases hb : b < hiV V i
            · refine pw_if_le (tgt := 131) d_MO_intersect_121 (by decide) (fun hQ => absurd hQ ((fun z => (lg_le _ _).mp z hb))) (fun _ => ?_)
              refine pw_lload d_MO_intersect_124 rfl ?_
              refine pw_lstore d_MO_intersect_126 (by decide) ?_
              dsimp only [stL, kil, isL, cat]
              refine pw_iconst 1 d_MO_intersect_128 (by decide) ?_
              refine pw_istore d_MO_intersect_129 (by decide) ?_
              dsimp only [stL, kil, isL, cat]
              refine pw_iinc (1) d_MO_intersect_131 rfl (by decide) (by decide) ?_
              dsimp only [stL, kil, isL, cat]
              refine pw_goto (tgt := 24) d_MO_intersect_134 (by decide) ?_
              rw [nI_1]
              simp only [hb, if_true] at hk2
              exact hk2 _ _
            · refine pw_if_le (tgt := 131) d_MO_intersect_121 (by decide) (fun _ => ?_) (fun hQ => absurd (((lg_le _ _).mpr hb)) hQ)
              refine pw_iinc (1) d_MO_intersect_131 rfl (by decide) (by decide) ?_
              dsimp only [stL, kil, isL, cat]
              refine pw_goto (tgt := 24) d_MO_intersect_134 (by decide) ?_
              rw [nI_1]
              simp only [hb, if_false] at hk2
              exact hk2 _ _
        · refine pw_icmp_lt (tgt := 131) d_MO_intersect_108 (by decide) (fun _ => ?_) (fun hQ => absurd ((nI_lt (by omega) (by omega))) hQ)
          have hk2 := hk
          unfold maS at hk2
          rw [if_neg hh] at hk2
          refine pw_iinc (1) d_MO_intersect_131 rfl (by decide) (by decide) ?_
          dsimp only [stL, kil, isL, cat]
          refine pw_goto (tgt := 24) d_MO_intersect_134 (by decide) ?_
          rw [nI_1]
          exact hk2 _ _
      refine pw_iload d_MO_intersect_35 rfl ?_
      refine c_MO_intersect_37 (Nat.le_of_ble_eq_true rfl) (mo_hasY hm hi h) ?_
      refine pw_if_eq (tgt := 131) d_MO_intersect_40 (by decide) (fun hQ => absurd hQ ((by decide))) (fun _ => ?_)
      refine pw_aload_n d_MO_intersect_43 rfl ?_
      refine pw_iload d_MO_intersect_44 rfl ?_
      refine c_MO_intersect_46 rfl (Nat.le_of_ble_eq_true rfl) (mo_ofV hM hP hi hc) ?_
      refine pw_aload_n d_MO_intersect_49 rfl ?_
      refine pw_iload d_MO_intersect_50 rfl ?_
      refine c_MO_intersect_52 rfl (Nat.le_of_ble_eq_true rfl) (mo_dtV hM hP hi hc) ?_
      refine pw_lsub d_MO_intersect_55 ?_
      rw [e1]
      refine pw_lstore d_MO_intersect_56 (by decide) ?_
      dsimp only [stL, kil, isL, cat]
      refine pw_aload_n d_MO_intersect_58 rfl ?_
      refine pw_iload d_MO_intersect_59 rfl ?_
      refine c_MO_intersect_61 rfl (Nat.le_of_ble_eq_true rfl) (mo_ofV hM hP hi hc) ?_
      refine pw_aload_n d_MO_intersect_64 rfl ?_
      refine pw_iload d_MO_intersect_65 rfl ?_
      refine c_MO_intersect_67 rfl (Nat.le_of_ble_eq_true rfl) (mo_dtV hM hP hi hc) ?_
      refine pw_ladd d_MO_intersect_70 ?_
      rw [e2]
      refine pw_lstore d_MO_intersect_71 (by decide) ?_
      dsimp only [stL, kil, isL, cat]
      refine pw_aload_n d_MO_intersect_73 rfl ?_
      refine pw_lload d_MO_intersect_74 rfl ?_
      refine c_MO_intersect_76 rfl (Nat.le_of_ble_eq_true rfl) k1 ?_
      refine pw_iload_n d_MO_intersect_79 rfl ?_
      by_cases hl : nd ≤ ns.countP (inI V (loV V i))
      · refine pw_icmp_lt (tgt := 101) d_MO_intersect_80 (by decide) (fun hQ => absurd hQ ((nI_nlt hl (by omega)))) (fun _ => ?_)
        have ih2 := ih
        unfold miS at ih2
        rw [if_pos hl] at ih2
        cases s with
        | none =>
          refine pw_iload_n d_MO_intersect_83 rfl ?_
          refine pw_if_eq (tgt := 95) d_MO_intersect_84 (by decide) (fun _ => ?_) (fun hQ => absurd (rfl) hQ)
          refine pw_lload d_MO_intersect_95 rfl ?_
          refine pw_lstore d_MO_intersect_97 (by decide) ?_
          dsimp only [stL, kil, isL, cat]
          refine pw_iconst 1 d_MO_intersect_99 (by decide) ?_
          refine pw_istore_n d_MO_intersect_100 (by decide) ?_
          dsimp only [stL, kil, isL, cat]
          exact half (some (loV V i)) ih2
        | some a =>
          refine pw_iload_n d_MO_intersect_83 rfl ?_
          refine pw_if_eq (tgt := 95) d_MO_intersect_84 (by decide) (fun hQ => absurd hQ ((show ¬ (1 : Int32) = 0 by decide))) (fun _ => ?_)
          refine pw_lload d_MO_intersect_87 rfl ?_
          refine pw_lload d_MO_intersect_89 rfl ?_
          refine pw_lcmp d_MO_intersect_91 ?_
          by_cases ha : loV V i < a
          · refine pw_if_ge (tgt := 101) d_MO_intersect_92 (by decide) (fun hQ => absurd hQ ((fun z => (lg_ge _ _).mp z ha))) (fun _ => ?_)
            refine pw_lload d_MO_intersect_95 rfl ?_
            refine pw_lstore d_MO_intersect_97 (by decide) ?_
            dsimp only [stL, kil, isL, cat]
            refine pw_iconst 1 d_MO_intersect_99 (by decide) ?_
            refine pw_istore_n d_MO_intersect_100 (by decide) ?_
            dsimp only [stL, kil, isL, cat]
            simp only [ha, if_true] at ih2
            exact half (some (loV V i)) ih2
          · refine pw_if_ge (tgt := 101) d_MO_intersect_92 (by decide) (fun _ => ?_) (fun hQ => absurd (((lg_ge _ _).mpr ha)) hQ)
            simp only [ha, if_false] at ih2
            exact half (some a) ih2
      · refine pw_icmp_lt (tgt := 101) d_MO_intersect_80 (by decide) (fun _ => ?_) (fun hQ => absurd ((nI_lt (by omega) (by omega))) hQ)
        have ih2 := ih
        unfold miS at ih2
        rw [if_neg hl] at ih2
        exact half s ih2
    · rw [rgf_n h] at ih
      refine pw_iload d_MO_intersect_35 rfl ?_
      refine c_MO_intersect_37 (Nat.le_of_ble_eq_true rfl) (mo_hasN hm hi h) ?_
      refine pw_if_eq (tgt := 131) d_MO_intersect_40 (by decide) (fun _ => ?_) (fun hQ => absurd (rfl) hQ)
      refine pw_iinc (1) d_MO_intersect_131 rfl (by decide) (by decide) ?_
      dsimp only [stL, kil, isL, cat]
      refine pw_goto (tgt := 24) d_MO_intersect_134 (by decide) ?_
      rw [nI_1]
      exact ih _ _
theorem lp_int2 (hM : M.2.2.1 = rf) {cm : Nat → Nat} (hP : MPs M cm) {m : Nat} {P : Nat → Bool} (hm : bts m P) (hC : M.1 MK 22 = nI m) (h0 : ∀ p, p < 8 → P p = true → 0 < cm p) (f nd : Nat) (o : PO) (M' : Mem) (V : VV) (hV : V = mVV M cm) (lo hi' : Int64) (Q : Nat → Bool) (hQ : Q = fun p => inO V lo hi' p && P p)
    (hend : ∀ x12 : Option PV, PW G l m_MO_intersect 225 [some (vR (some MK)), some (vI (nI f)), some (vI (nI nd)), some (vI 1), some (vI 1), some (vL lo), none, some (vL hi'), none, some (vI (nI (msk (rgf Q 8)))), some (vI (nI 8)), none, x12, none] [] M o M' 0 0) :
    ∀ i, i ≤ 8 → ∀ x12 : Option PV, PW G l m_MO_intersect 162 [some (vR (some MK)), some (vI (nI f)), some (vI (nI nd)), some (vI 1), some (vI 1), some (vL lo), none, some (vL hi'), none, some (vI (nI (msk (rgf Q i)))), some (vI (nI i)), none, x12, none] [] M o M' 0 0 := by
  refine lpU ?_ ?_
  · intro x12
    refine pw_iload d_MO_intersect_162 rfl ?_
    refine pw_bipush (8) d_MO_intersect_164 (by decide) ?_
    refine pw_icmp_ge (tgt := 225) d_MO_intersect_166 (by decide) (fun _ => ?_) (fun hQ => absurd (nI_le (a := 8) (b := 8) (by omega) (by omega)) hQ)
    exact hend _
  · intro i hi ih x12
    have hm8 : msk (rgf Q i) < 256 := msk_lt (fun x hx => by
      have := List.mem_range.mp (List.mem_filter.mp hx).1
      omega)
    refine pw_iload d_MO_intersect_162 rfl ?_
    refine pw_bipush (8) d_MO_intersect_164 (by decide) ?_
    refine pw_icmp_ge (tgt := 225) d_MO_intersect_166 (by decide) (fun hQ => absurd hQ (nI_ge (b := 8) hi (by omega))) (fun _ => ?_)
    refine pw_aload_n d_MO_intersect_169 rfl ?_
    refine pw_getI d_MO_intersect_170 f_MO_200 rfl rfl ?_
    rw [hC]
    by_cases h : P i = true
    · have hc := h0 i hi h
      have ho := mo_ofV (G := G) (l := l) hM hP hi hc
      rw [← hV] at ho
      refine pw_iload d_MO_intersect_173 rfl ?_
      refine c_MO_intersect_175 (Nat.le_of_ble_eq_true rfl) (mo_hasY hm hi h) ?_
      refine pw_if_eq (tgt := 215) d_MO_intersect_178 (by decide) (fun hQ => absurd hQ ((by decide))) (fun _ => ?_)
      refine pw_aload_n d_MO_intersect_181 rfl ?_
      refine pw_iload d_MO_intersect_182 rfl ?_
      refine c_MO_intersect_184 rfl (Nat.le_of_ble_eq_true rfl) ho ?_
      refine pw_lload d_MO_intersect_187 rfl ?_
      refine pw_lcmp d_MO_intersect_189 ?_
      by_cases h1 : oV V i < lo
      · refine pw_if_lt (tgt := 215) d_MO_intersect_190 (by decide) (fun _ => ?_) (fun hQ => absurd (((lg_lt _ _).mpr h1)) hQ)
        rw [rgf_n (by rw [hQ]; unfold inO; simp only [h1, not_true_eq_false, decide_false, Bool.false_and]; exact Bool.noConfusion)] at ih
        refine pw_iload d_MO_intersect_215 rfl ?_
        refine pw_istore d_MO_intersect_217 (by decide) ?_
        dsimp only [stL, kil, isL, cat]
        refine pw_iinc (1) d_MO_intersect_219 rfl (by decide) (by decide) ?_
        dsimp only [stL, kil, isL, cat]
        refine pw_goto (tgt := 162) d_MO_intersect_222 (by decide) ?_
        rw [nI_1]
        exact ih _
      · refine pw_if_lt (tgt := 215) d_MO_intersect_190 (by decide) (fun hQ => absurd hQ ((fun z => h1 ((lg_lt _ _).mp z)))) (fun _ => ?_)
        refine pw_aload_n d_MO_intersect_193 rfl ?_
        refine pw_iload d_MO_intersect_194 rfl ?_
        refine c_MO_intersect_196 rfl (Nat.le_of_ble_eq_true rfl) ho ?_
        refine pw_lload d_MO_intersect_199 rfl ?_
        refine pw_lcmp d_MO_intersect_201 ?_
        by_cases h2 : hi' < oV V i
        · refine pw_if_gt (tgt := 215) d_MO_intersect_202 (by decide) (fun _ => ?_) (fun hQ => absurd (((lg_gt _ _).mpr h2)) hQ)
          rw [rgf_n (by rw [hQ]; unfold inO; simp only [h2, not_true_eq_false, decide_false, Bool.and_false, Bool.false_and]; exact Bool.noConfusion)] at ih
          refine pw_iload d_MO_intersect_215 rfl ?_
          refine pw_istore d_MO_intersect_217 (by decide) ?_
          dsimp only [stL, kil, isL, cat]
          refine pw_iinc (1) d_MO_intersect_219 rfl (by decide) (by decide) ?_
          dsimp only [stL, kil, isL, cat]
          refine pw_goto (tgt := 162) d_MO_intersect_222 (by decide) ?_
          rw [nI_1]
          exact ih _
        · refine pw_if_gt (tgt := 215) d_MO_intersect_202 (by decide) (fun hQ => absurd hQ ((fun z => h2 ((lg_gt _ _).mp z)))) (fun _ => ?_)
          rw [rgf_y (by rw [hQ]; unfold inO; simp only [h, h1, h2, not_false_eq_true, decide_true, Bool.and_self])] at ih
          refine pw_iload d_MO_intersect_205 rfl ?_
          refine pw_iconst 1 d_MO_intersect_207 (by decide) ?_
          refine pw_iload d_MO_intersect_208 rfl ?_
          refine pw_ishl d_MO_intersect_210 ?_
          refine pw_ior d_MO_intersect_211 ?_
          rw [(or_bit _ hm8 i hi).1]
          refine pw_goto (tgt := 217) d_MO_intersect_212 (by decide) ?_
          refine pw_istore d_MO_intersect_217 (by decide) ?_
          dsimp only [stL, kil, isL, cat]
          refine pw_iinc (1) d_MO_intersect_219 rfl (by decide) (by decide) ?_
          dsimp only [stL, kil, isL, cat]
          refine pw_goto (tgt := 162) d_MO_intersect_222 (by decide) ?_
          rw [nI_1]
          unfold msk at ih
          rw [fold_y] at ih
          exact ih _
    · rw [rgf_n (by rw [hQ]; simp only [Bool.and_eq_true]; exact fun z => h z.2)] at ih
      refine pw_iload d_MO_intersect_173 rfl ?_
      refine c_MO_intersect_175 (Nat.le_of_ble_eq_true rfl) (mo_hasN hm hi h) ?_
      refine pw_if_eq (tgt := 215) d_MO_intersect_178 (by decide) (fun _ => ?_) (fun hQ => absurd (rfl) hQ)
      refine pw_iload d_MO_intersect_215 rfl ?_
      refine pw_istore d_MO_intersect_217 (by decide) ?_
      dsimp only [stL, kil, isL, cat]
      refine pw_iinc (1) d_MO_intersect_219 rfl (by decide) (by decide) ?_
      dsimp only [stL, kil, isL, cat]
      refine pw_goto (tgt := 162) d_MO_intersect_222 (by decide) ?_
      rw [nI_1]
      exact ih _
/-- the reference's agreement but f -/
def mAg (V : VV) (ns : List Nat) (f : Nat) (lo hi : Int64) : Prop := miN V ns (ns.length - f) ns = some lo ∧ maN V ns (ns.length - f) ns = some hi ∧ ¬ hi < lo ∧ ns.length - (ns.filter (inO V lo hi)).length ≤ f
theorem mo_inter (hM : M.2.2.1 = rf) {cm : Nat → Nat} (hP : MPs M cm) {m : Nat} {P : Nat → Bool} (hm : bts m P) (hC : M.1 MK 22 = nI m) (h0 : ∀ p, p < 8 → P p = true → 0 < cm p) (f : Nat) (V : VV) (hV : V = mVV M cm) (ns : List Nat) (hns : ns = rgf P 8) (hf : f ≤ ns.length) (o : PO) (M' : Mem)
    (hy : ∀ lo hi, mAg V ns f lo hi → o = rI 1 ∧ M' = sL (sL (sI M MK 23 (nI (msk (ns.filter (inO V lo hi))))) MK 29 lo) MK 30 hi)
    (hn : (∀ lo hi, ¬ mAg V ns f lo hi) → o = rI 0 ∧ M' = M) : PM G l m_MO_intersect [vR (some MK), vI (nI f)] M o M' 0 0 := by
  have hlen : ns.length ≤ 8 := by rw [hns]; exact rgf_len
  have hmany := mo_many (G := G) (l := l) (M := M) hm
  rw [← hns] at hmany
  refine pm_in [some (vR (some MK)), some (vI (nI f)), none, none, none, none, none, none, none, none, none, none, none, none] rfl ?_
  refine pw_aload_n d_MO_intersect_0 rfl ?_
  refine pw_getI d_MO_intersect_1 f_MO_200 rfl rfl ?_
  rw [hC]
  refine c_MO_intersect_4 (Nat.le_of_ble_eq_true rfl) hmany ?_
  refine pw_iload_n d_MO_intersect_7 rfl ?_
  refine pw_isub d_MO_intersect_8 ?_
  rw [pk_sub hf]
  refine pw_istore_n d_MO_intersect_9 (by decide) ?_
  dsimp only [stL, kil, isL, cat]
  refine pw_iconst 0 d_MO_intersect_10 (by decide) ?_
  refine pw_istore_n d_MO_intersect_11 (by decide) ?_
  dsimp only [stL, kil, isL, cat]
  refine pw_iconst 0 d_MO_intersect_12 (by decide) ?_
  refine pw_istore d_MO_intersect_13 (by decide) ?_
  dsimp only [stL, kil, isL, cat]
  refine pw_lconst 0 d_MO_intersect_15 (by decide) ?_
  refine pw_lstore d_MO_intersect_16 (by decide) ?_
  dsimp only [stL, kil, isL, cat]
  refine pw_lconst 0 d_MO_intersect_18 (by decide) ?_
  refine pw_lstore d_MO_intersect_19 (by decide) ?_
  dsimp only [stL, kil, isL, cat]
  refine pw_iconst 0 d_MO_intersect_21 (by decide) ?_
  refine pw_istore d_MO_intersect_22 (by decide) ?_
  dsimp only [stL, kil, isL, cat]
  refine lp_int1 hM hP hm hC h0 f (ns.length - f) (by omega) o M' V hV ns hns ?_ 0 (by omega) none none
  intro x10 x12
  cases hs : miN V ns (ns.length - f) ns with
  | none =>
    obtain ⟨e1, e2⟩ := hn (fun lo hi z => by rw [z.1] at hs; cases hs)
    subst e1; subst e2
    refine pw_iload_n d_MO_intersect_137 rfl ?_
    refine pw_if_eq (tgt := 154) d_MO_intersect_138 (by decide) (fun _ => ?_) (fun hQ => absurd (rfl) hQ)
    refine pw_iconst 0 d_MO_intersect_154 (by decide) ?_
    refine pw_zreturn d_MO_intersect_155 rfl ?_ ?_ ?_
    · exact Or.inl rfl
    · rfl
    · rfl
  | some lo =>
    refine pw_iload_n d_MO_intersect_137 rfl ?_
    refine pw_if_eq (tgt := 154) d_MO_intersect_138 (by decide) (fun hQ => absurd hQ ((show ¬ (1 : Int32) = 0 by decide))) (fun _ => ?_)
    cases ht : maN V ns (ns.length - f) ns with
    | none =>
      obtain ⟨e1, e2⟩ := hn (fun lo hi z => by rw [z.2.1] at ht; cases ht)
      subst e1; subst e2
      refine pw_iload d_MO_intersect_141 rfl ?_
      refine pw_if_eq (tgt := 154) d_MO_intersect_143 (by decide) (fun _ => ?_) (fun hQ => absurd (rfl) hQ)
      refine pw_iconst 0 d_MO_intersect_154 (by decide) ?_
      refine pw_zreturn d_MO_intersect_155 rfl ?_ ?_ ?_
      · exact Or.inl rfl
      · rfl
      · rfl
    | some hi =>
      refine pw_iload d_MO_intersect_141 rfl ?_
      refine pw_if_eq (tgt := 154) d_MO_intersect_143 (by decide) (fun hQ => absurd hQ ((show ¬ (1 : Int32) = 0 by decide))) (fun _ => ?_)
      refine pw_lload d_MO_intersect_146 rfl ?_
      refine pw_lload d_MO_intersect_148 rfl ?_
      refine pw_lcmp d_MO_intersect_150 ?_
      by_cases hlh : hi < lo
      · obtain ⟨e1, e2⟩ := hn (fun lo' hi' z => by
          have a1 := z.1; have a2 := z.2.1; have a3 := z.2.2.1
          rw [hs] at a1; rw [ht] at a2
          rw [← Option.some.inj a1, ← Option.some.inj a2] at a3
          exact a3 hlh)
        subst e1; subst e2
        refine pw_if_le (tgt := 156) d_MO_intersect_151 (by decide) (fun hQ => absurd hQ ((fun z => (lg_le _ _).mp z hlh))) (fun _ => ?_)
        refine pw_iconst 0 d_MO_intersect_154 (by decide) ?_
        refine pw_zreturn d_MO_intersect_155 rfl ?_ ?_ ?_
        · exact Or.inl rfl
        · rfl
        · rfl
      · refine pw_if_le (tgt := 156) d_MO_intersect_151 (by decide) (fun _ => ?_) (fun hQ => absurd (((lg_le _ _).mpr hlh)) hQ)
        refine pw_iconst 0 d_MO_intersect_156 (by decide) ?_
        refine pw_istore d_MO_intersect_157 (by decide) ?_
        dsimp only [stL, kil, isL, cat]
        refine pw_iconst 0 d_MO_intersect_159 (by decide) ?_
        refine pw_istore d_MO_intersect_160 (by decide) ?_
        dsimp only [stL, kil, isL, cat]
        refine lp_int2 hM hP hm hC h0 f (ns.length - f) o M' V hV lo hi _ rfl ?_ 0 (by omega) x12
        intro y12
        have eQ : rgf (fun p => inO V lo hi p && P p) 8 = ns.filter (inO V lo hi) := by rw [hns]; unfold rgf; rw [List.filter_filter]
        have hmany2 := mo_many (G := G) (l := l) (M := M) (bts_msk (P := fun p => inO V lo hi p && P p))
        have hle : (ns.filter (inO V lo hi)).length ≤ ns.length := List.length_filter_le _ _
        rw [eQ] at hmany2 ⊢
        refine pw_aload_n d_MO_intersect_225 rfl ?_
        refine pw_getI d_MO_intersect_226 f_MO_200 rfl rfl ?_
        rw [hC]
        refine c_MO_intersect_229 (Nat.le_of_ble_eq_true rfl) hmany ?_
        refine pw_iload d_MO_intersect_232 rfl ?_
        refine c_MO_intersect_234 (Nat.le_of_ble_eq_true rfl) hmany2 ?_
        refine pw_isub d_MO_intersect_237 ?_
        rw [pk_sub hle]
        refine pw_iload_n d_MO_intersect_238 rfl ?_
        by_cases hff : ns.length - (ns.filter (inO V lo hi)).length ≤ f
        · obtain ⟨e1, e2⟩ := hy lo hi ⟨hs, ht, hlh, hff⟩
          subst e1; subst e2
          refine pw_icmp_le (tgt := 244) d_MO_intersect_239 (by decide) (fun _ => ?_) (fun hQ => absurd (nI_le hff (by omega)) hQ)
          refine pw_aload_n d_MO_intersect_244 rfl ?_
          refine pw_iload d_MO_intersect_245 rfl ?_
          refine pw_putI d_MO_intersect_247 f_MO_210 rfl rfl rfl ?_
          refine pw_aload_n d_MO_intersect_250 rfl ?_
          refine pw_lload d_MO_intersect_251 rfl ?_
          refine pw_putL d_MO_intersect_253 f_MO_213 rfl rfl rfl ?_
          refine pw_aload_n d_MO_intersect_256 rfl ?_
          refine pw_lload d_MO_intersect_257 rfl ?_
          refine pw_putL d_MO_intersect_259 f_MO_216 rfl rfl rfl ?_
          refine pw_iconst 1 d_MO_intersect_262 (by decide) ?_
          refine pw_zreturn d_MO_intersect_263 rfl ?_ ?_ ?_
          · exact Or.inr rfl
          · rfl
          · rfl
        · obtain ⟨e1, e2⟩ := hn (fun lo' hi' z => by
            have a1 := z.1; have a2 := z.2.1; have a3 := z.2.2.2
            rw [hs] at a1; rw [ht] at a2
            rw [← Option.some.inj a1, ← Option.some.inj a2] at a3
            exact hff a3)
          subst e1; subst e2
          refine pw_icmp_le (tgt := 244) d_MO_intersect_239 (by decide) (fun hQ => absurd hQ (nI_ge (by omega) (by omega))) (fun _ => ?_)
          refine pw_iconst 0 d_MO_intersect_242 (by decide) ?_
          refine pw_zreturn d_MO_intersect_243 rfl ?_ ?_ ?_
          · exact Or.inl rfl
          · rfl
          · rfl
end MI
