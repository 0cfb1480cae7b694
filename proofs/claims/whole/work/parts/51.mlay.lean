/-! the reference: the row is laid -/
def SM (M N : Mem) : Prop := N.2.2 = M.2.2 ∧ (∀ k, k ≠ MK → k ≠ (0, 35) → N.1 k = M.1 k ∧ N.2.1 k = M.2.1 k) ∧ N.1 MK 6 = M.1 MK 6
/-- two memories that differ in the reference's row alone -/
def FX (M N : Mem) : Prop := N.2.2 = M.2.2 ∧ (∀ k, k ≠ MK → k ≠ (0, 35) → N.1 k = M.1 k ∧ N.2.1 k = M.2.1 k) ∧ (∀ j, j ≠ 32 → N.1 MK j = M.1 MK j) ∧ N.2.1 MK = M.2.1 MK
theorem FX.sm {M N : Mem} (h : FX M N) : SM M N := ⟨h.1, h.2.1, h.2.2.1 6 (by decide)⟩
theorem FX.rfl' {M : Mem} : FX M M := ⟨rfl, fun _ _ _ => ⟨rfl, rfl⟩, fun _ _ => rfl, rfl⟩
theorem FX.trans {M N K : Mem} (a : FX M N) (b : FX N K) : FX M K := ⟨b.1.trans a.1, fun k h1 h2 => ⟨(b.2.1 k h1 h2).1.trans (a.2.1 k h1 h2).1, (b.2.1 k h1 h2).2.trans (a.2.1 k h1 h2).2⟩, fun j hj => (b.2.2.1 j hj).trans (a.2.2.1 j hj), b.2.2.2.trans a.2.2.2⟩
theorem FX_row {M : Mem} {j : Nat} {x : Int32} : FX M (sI M (0, 35) j x) := ⟨rfl, fun k _ h2 => ⟨by funext i; simp [sI, h2], rfl⟩, fun i _ => by simp [sI], rfl⟩
theorem FX_n {M : Mem} {x : Int32} : FX M (sI M MK 32 x) := ⟨rfl, fun k h1 _ => ⟨by funext i; simp [sI, h1], rfl⟩, fun i hi => by simp [sI, hi], rfl⟩
theorem FX.rf {M N : Mem} (h : FX M N) (hM : M.2.2.1 = rf) : N.2.2.1 = rf := by rw [h.1]; exact hM
theorem SM.rf {M N : Mem} (h : SM M N) (hM : M.2.2.1 = rf) : N.2.2.1 = rf := by rw [h.1]; exact hM
theorem SM.trans {M N K : Mem} (a : SM M N) (b : SM N K) : SM M K := ⟨b.1.trans a.1, fun k h1 h2 => ⟨(b.2.1 k h1 h2).1.trans (a.2.1 k h1 h2).1, (b.2.1 k h1 h2).2.trans (a.2.1 k h1 h2).2⟩, b.2.2.trans a.2.2⟩
theorem sm_mdl {M N : Mem} (h : SM M N) (p : Nat) : mdl N p = mdl M p := by
  funext i
  show N.2.1 (0, 32) _ = M.2.1 (0, 32) _
  rw [(h.2.1 (0, 32) (by decide) (by decide)).2]
theorem sm_mOk {M N : Mem} (h : SM M N) (p c pl : Nat) : mOk N p c pl = mOk M p c pl := by
  show 8 * p + odK (mdl N p) c pl = _
  rw [sm_mdl h p]
theorem sm_mOf {M N : Mem} (h : SM M N) (p c : Nat) : mOf N p c = mOf M p c := by
  unfold mOf
  rw [sm_mOk h, (h.2.1 (0, 31) (by decide) (by decide)).2]
theorem sm_mJs {M N : Mem} (h : SM M N) (p c : Nat) : mJs N p c = mJs M p c := by
  unfold mJs
  rw [sm_mOf h]
  simp only [sm_mOk h, (h.2.1 (0, 31) (by decide) (by decide)).2]
theorem sm_mJi {M N : Mem} (h : SM M N) (p c : Nat) : mJi N p c = mJi M p c := by
  unfold mJi
  rw [sm_mJs h]
theorem sm_mDt {M N : Mem} (h : SM M N) (p c : Nat) : mDt N p c = mDt M p c := by
  unfold mDt mDe mDs mNw
  rw [sm_mJi h, (h.2.1 (0, 27) (by decide) (by decide)).2, (h.2.1 (0, 28) (by decide) (by decide)).2]
  simp only [sm_mOk h, (h.2.1 (0, 32) (by decide) (by decide)).2, (h.2.1 (0, 33) (by decide) (by decide)).2, (h.2.1 (0, 34) (by decide) (by decide)).1, h.2.2]
theorem sm_mVV {M N : Mem} (h : SM M N) (cm : Nat → Nat) : mVV N cm = mVV M cm := by
  unfold mVV
  simp only [sm_mOf h, sm_mDt h, sm_mJi h, (h.2.1 (0, 26) (by decide) (by decide)).1]
theorem sm_mps {M N : Mem} (h : SM M N) {cm : Nat → Nat} (hP : MPs M cm) : MPs N cm := fun p hp => by
  rw [sm_mJs h, (h.2.1 (0, 29) (by decide) (by decide)).1]
  exact hP p hp
def ModL (M : Mem) (t : List Nat) : Prop := M.1 MK 32 = nI t.length ∧ t.length ≤ 8 ∧ ∀ i x, t[i]? = some x → M.1 (0, 35) i = nI x
/-- the best of a list, by rank -/
def bsS (V : VV) (s : Option Nat) (p : Nat) : Option Nat := match s with | none => some p | some b => if rkV V p < rkV V b then some p else some b
def bsN (V : VV) (l : List Nat) : Option Nat := l.foldl (bsS V) none
def bI : Option Nat → Int32
  | none => -1
  | some b => nI b
def bsP (V : VV) (l : List Nat) (s : Option Nat) : Prop := (s = none → l = []) ∧ ∀ b, s = some b → b ∈ l ∧ ∀ y ∈ l, y = b ∨ Rk V b y
theorem bsP_step {V : VV} {l : List Nat} {s : Option Nat} {i : Nat} (hl : ∀ y ∈ l, y < i) (h : bsP V l s) : bsP V (l ++ [i]) (bsS V s i) := by
  obtain ⟨h1, h2⟩ := h
  cases s with
  | none =>
    refine ⟨fun z => by simp [bsS] at z, fun b hb => ?_⟩
    have : i = b := by simpa [bsS] using hb
    subst this
    rw [h1 rfl]
    exact ⟨by simp, fun y hy => Or.inl (by simpa using hy)⟩
  | some c =>
    obtain ⟨g1, g2⟩ := h2 c rfl
    have hci := hl c g1
    by_cases hc : rkV V i < rkV V c
    · have e : bsS V (some c) i = some i := by simp [bsS, hc]
      rw [e]
      refine ⟨fun z => by simp at z, fun b hb => ?_⟩
      have : i = b := Option.some.inj hb
      subst this
      refine ⟨by simp, fun y hy => ?_⟩
      rcases List.mem_append.mp hy with hy | hy
      · right
        rcases g2 y hy with e | e
        · rw [e]; exact Or.inl hc
        · exact Rk_trans (Or.inl hc) e
      · left; simpa using hy
    · have e : bsS V (some c) i = some c := by simp [bsS, hc]
      rw [e]
      refine ⟨fun z => by simp at z, fun b hb => ?_⟩
      have : c = b := Option.some.inj hb
      subst this
      refine ⟨List.mem_append_left _ g1, fun y hy => ?_⟩
      rcases List.mem_append.mp hy with hy | hy
      · exact g2 y hy
      · right
        have : y = i := by simpa using hy
        rw [this, Rk_int]
        rw [Int64.lt_iff_toInt_lt] at hc
        omega
theorem bsN_spec {V : VV} {P : Nat → Bool} (i : Nat) : bsP V (rgf P i) (bsN V (rgf P i)) := by
  induction i with
  | zero => exact ⟨fun _ => rfl, fun b hb => by cases hb⟩
  | succ i ih =>
    by_cases h : P i = true
    · rw [rgf_y h]
      have e : bsN V (rgf P i ++ [i]) = bsS V (bsN V (rgf P i)) i := fold_y
      rw [e]
      exact bsP_step (fun y hy => List.mem_range.mp (List.mem_filter.mp hy).1) ih
    · rw [rgf_n h]
      exact ih
theorem xor_bit : ∀ m, m < 256 → ∀ p, p < 8 → nI m ^^^ ((1 : Int32) <<< (nI p &&& 31)) = nI (m ^^^ 2 ^ p) ∧ m ^^^ 2 ^ p < 256 := by decide +kernel
theorem bts_xor {m p : Nat} {P : Nat → Bool} (hm : bts m P) (hp : p < 8) (h : P p = true) : bts (m ^^^ 2 ^ p) (fun q => P q && decide (q ≠ p)) := by
  refine ⟨(xor_bit m hm.1 p hp).2, fun q hq => ?_⟩
  rw [Nat.testBit_xor, Nat.testBit_two_pow, hm.2 q hq]
  by_cases e : p = q
  · subst e
    simp [h]
  · have : ¬ q = p := fun z => e z.symm
    simp [e, this]
theorem bts_0 {m : Nat} {P : Nat → Bool} (hm : bts m P) : m = 0 ↔ rgf P 8 = [] := by
  constructor
  · intro h
    rw [List.filter_eq_nil_iff]
    intro p hp
    rw [← hm.2 p (List.mem_range.mp hp), h]
    simp
  · intro h
    have h2 : ∀ p, p < 8 → m.testBit p = false := fun p hp => by
      rw [hm.2 p hp]
      rw [List.filter_eq_nil_iff] at h
      have := h p (List.mem_range.mpr hp)
      simpa using this
    have : ∀ m, m < 256 → (∀ p, p < 8 → m.testBit p = false) → m = 0 := by decide +kernel
    exact this m hm.1 h2
section ML
variable {G : GG} {l : Launch} {M : Mem}
theorem lp_lay1 (hM : M.2.2.1 = rf) {cm : Nat → Nat} (hP : MPs M cm) {m : Nat} {P : Nat → Bool} (hm : bts m P) (h0 : ∀ p, p < 8 → P p = true → 0 < cm p) (V : VV) (hV : V = mVV M cm) (o : PO) (M' : Mem)
    (hend : PW G l m_MO_layRow 62 [some (vR (some MK)), some (vI (nI m)), some (vI (bI (bsN V (rgf P 8)))), some (vI (nI 8))] [] M o M' 0 0) : ∀ i, i ≤ 8 → PW G l m_MO_layRow 18 [some (vR (some MK)), some (vI (nI m)), some (vI (bI (bsN V (rgf P i)))), some (vI (nI i))] [] M o M' 0 0 := by
  refine lpU ?_ ?_
  · refine pw_iload_n d_MO_layRow_18 rfl ?_
    refine pw_bipush (8) d_MO_layRow_19 (by decide) ?_
    refine pw_icmp_ge (tgt := 62) d_MO_layRow_21 (by decide) (fun _ => ?_) (fun hQ => absurd (nI_le (a := 8) (b := 8) (by omega) (by omega)) hQ)
    exact hend
  · intro i hi ih
    refine pw_iload_n d_MO_layRow_18 rfl ?_
    refine pw_bipush (8) d_MO_layRow_19 (by decide) ?_
    refine pw_icmp_ge (tgt := 62) d_MO_layRow_21 (by decide) (fun hQ => absurd hQ (nI_ge (b := 8) hi (by omega))) (fun _ => ?_)
    by_cases h : P i = true
    · have hs := bsN_spec (V := V) (P := P) i
      rw [rgf_y h] at ih
      unfold bsN at ih
      rw [fold_y] at ih
      change PW G l m_MO_layRow 18 [some (vR (some MK)), some (vI (nI m)), some (vI (bI (bsS V (bsN V (rgf P i)) i))), some (vI (nI (i + 1)))] [] M o M' 0 0 at ih
      refine pw_iload_n d_MO_layRow_24 rfl ?_
      refine pw_iload_n d_MO_layRow_25 rfl ?_
      refine c_MO_layRow_26 (Nat.le_of_ble_eq_true rfl) (mo_hasY hm hi h) ?_
      refine pw_if_eq (tgt := 54) d_MO_layRow_29 (by decide) (fun hQ => absurd hQ ((by decide))) (fun _ => ?_)
      cases hb : bsN V (rgf P i) with
      | none =>
        rw [hb] at ih
        refine pw_iload_n d_MO_layRow_32 rfl ?_
        refine pw_if_lt (tgt := 50) d_MO_layRow_33 (by decide) (fun _ => ?_) (fun hQ => absurd ((show (-1 : Int32) < 0 by decide)) hQ)
        refine pw_iload_n d_MO_layRow_50 rfl ?_
        refine pw_goto (tgt := 55) d_MO_layRow_51 (by decide) ?_
        refine pw_istore_n d_MO_layRow_55 (by decide) ?_
        dsimp only [stL, kil, isL, cat]
        refine pw_iinc (1) d_MO_layRow_56 rfl (by decide) (by decide) ?_
        dsimp only [stL, kil, isL, cat]
        refine pw_goto (tgt := 18) d_MO_layRow_59 (by decide) ?_
        rw [nI_1]
        exact ih
      | some b =>
        rw [hb] at ih
        have hb2 := List.mem_filter.mp (hs.2 b hb).1
        have hbi : b < i := List.mem_range.mp hb2.1
        have r1 := mo_rankOf (G := G) (l := l) hM hP hi (h0 i hi h)
        have r2 := mo_rankOf (G := G) (l := l) hM hP (p := b) (by omega) (h0 b (by omega) hb2.2)
        rw [← hV] at r1 r2
        unfold bsS at ih
        refine pw_iload_n d_MO_layRow_32 rfl ?_
        refine pw_if_lt (tgt := 50) d_MO_layRow_33 (by decide) (fun hQ => absurd hQ ((nI_pos (n := b) (by omega)))) (fun _ => ?_)
        refine pw_aload_n d_MO_layRow_36 rfl ?_
        refine pw_iload_n d_MO_layRow_37 rfl ?_
        refine c_MO_layRow_38 rfl (Nat.le_of_ble_eq_true rfl) r1 ?_
        refine pw_aload_n d_MO_layRow_41 rfl ?_
        refine pw_iload_n d_MO_layRow_42 rfl ?_
        refine c_MO_layRow_43 rfl (Nat.le_of_ble_eq_true rfl) r2 ?_
        refine pw_lcmp d_MO_layRow_46 ?_
        by_cases hc : rkV V i < rkV V b
        · refine pw_if_ge (tgt := 54) d_MO_layRow_47 (by decide) (fun hQ => absurd hQ ((fun z => (lg_ge _ _).mp z hc))) (fun _ => ?_)
          refine pw_iload_n d_MO_layRow_50 rfl ?_
          refine pw_goto (tgt := 55) d_MO_layRow_51 (by decide) ?_
          refine pw_istore_n d_MO_layRow_55 (by decide) ?_
          dsimp only [stL, kil, isL, cat]
          refine pw_iinc (1) d_MO_layRow_56 rfl (by decide) (by decide) ?_
          dsimp only [stL, kil, isL, cat]
          refine pw_goto (tgt := 18) d_MO_layRow_59 (by decide) ?_
          rw [nI_1]
          simp only [hc, if_true] at ih
          exact ih
        · refine pw_if_ge (tgt := 54) d_MO_layRow_47 (by decide) (fun _ => ?_) (fun hQ => absurd (((lg_ge _ _).mpr hc)) hQ)
          refine pw_iload_n d_MO_layRow_54 rfl ?_
          refine pw_istore_n d_MO_layRow_55 (by decide) ?_
          dsimp only [stL, kil, isL, cat]
          refine pw_iinc (1) d_MO_layRow_56 rfl (by decide) (by decide) ?_
          dsimp only [stL, kil, isL, cat]
          refine pw_goto (tgt := 18) d_MO_layRow_59 (by decide) ?_
          rw [nI_1]
          simp only [hc, if_false] at ih
          exact ih
    · rw [rgf_n h] at ih
      refine pw_iload_n d_MO_layRow_24 rfl ?_
      refine pw_iload_n d_MO_layRow_25 rfl ?_
      refine c_MO_layRow_26 (Nat.le_of_ble_eq_true rfl) (mo_hasN hm hi h) ?_
      refine pw_if_eq (tgt := 54) d_MO_layRow_29 (by decide) (fun _ => ?_) (fun hQ => absurd (rfl) hQ)
      refine pw_iload_n d_MO_layRow_54 rfl ?_
      refine pw_istore_n d_MO_layRow_55 (by decide) ?_
      dsimp only [stL, kil, isL, cat]
      refine pw_iinc (1) d_MO_layRow_56 rfl (by decide) (by decide) ?_
      dsimp only [stL, kil, isL, cat]
      refine pw_goto (tgt := 18) d_MO_layRow_59 (by decide) ?_
      rw [nI_1]
      exact ih
theorem lp_lay2 (hM : M.2.2.1 = rf) {cm : Nat → Nat} (hP : MPs M cm) (V : VV) (hV : V = mVV M cm) (n0 : List Nat) (hn0 : ∀ p ∈ n0, p < 8 ∧ 0 < cm p) : ∀ n m (P : Nat → Bool) s N (x2 x3 : Option PV), (rgf P 8).length = n → bts m P → s.length + n ≤ 8 → s.Pairwise (Rk V) → (∀ x ∈ s, ∀ y ∈ rgf P 8, Rk V x y) → (∀ y, y ∈ n0 ↔ (y ∈ s ∨ y ∈ rgf P 8)) → FX M N → ModL N s → isL x2 = false → isL x3 = false → ∃ N', (FX M N' ∧ ∃ t, ModL N' t ∧ t.Pairwise (Rk V) ∧ ∀ y, y ∈ t ↔ y ∈ n0) ∧ PW G l m_MO_layRow 10 [some (vR (some MK)), some (vI (nI m)), x2, x3] [] N rV N' 0 0 := by
  intro n
  induction n with
  | zero =>
    intro m P s N x2 x3 hl hm h8 hs hsy hmem hF hR _ _
    have hnil : rgf P 8 = [] := List.length_eq_zero_iff.mp hl
    have hm0 := (bts_0 hm).mpr hnil
    subst hm0
    refine ⟨N, ⟨hF, s, hR, hs, fun y => by rw [hmem, hnil]; simp⟩, ?_⟩
    refine pw_iload_n d_MO_layRow_10 rfl ?_
    refine pw_if_eq (tgt := 91) d_MO_layRow_11 (by decide) (fun _ => ?_) (fun hQ => absurd (rfl) hQ)
    refine pw_return d_MO_layRow_91 rfl ?_ ?_
    · rfl
    · rfl
  | succ n ih =>
    intro m P s N x2 x3 hl hm h8 hs hsy hmem hF hR hx2 hx3
    have hne : rgf P 8 ≠ [] := fun z => by rw [z] at hl; simp at hl
    have hm0 : m ≠ 0 := fun z => hne ((bts_0 hm).mp z)
    have hspec := bsN_spec (V := V) (P := P) 8
    have hN := hF.rf hM
    have hVN : V = mVV N cm := by rw [sm_mVV hF.sm]; exact hV
    cases hb : bsN V (rgf P 8) with
    | none => exact absurd (hspec.1 hb) hne
    | some b =>
      obtain ⟨b1, b2⟩ := hspec.2 b hb
      have b3 := List.mem_filter.mp b1
      have hb8 : b < 8 := List.mem_range.mp b3.1
      have hmx := bts_xor hm hb8 b3.2
      have hlist : rgf (fun q => P q && decide (q ≠ b)) 8 = (rgf P 8).filter (fun q => decide (q ≠ b)) := by
        unfold rgf
        rw [List.filter_filter]
        congr 1
        funext q
        exact Bool.and_comm _ _
      have hnd : (rgf P 8).Nodup := List.Pairwise.filter _ List.nodup_range
      have hlen : (rgf (fun q => P q && decide (q ≠ b)) 8).length = n := by
        have h1 : (rgf P 8).filter (fun q => decide (q ≠ b)) = (rgf P 8).erase b := by
          rw [List.Nodup.erase_eq_filter hnd]
          congr 1
          funext q
          by_cases e : q = b <;> simp [e]
        rw [hlist, h1, List.length_erase_of_mem b1]
        omega
      have hmem' : ∀ y, y ∈ rgf (fun q => P q && decide (q ≠ b)) 8 ↔ (y ∈ rgf P 8 ∧ y ≠ b) := fun y => by
        rw [hlist, List.mem_filter]
        simp
      obtain ⟨r1, r2, r3⟩ := hR
      have hsl : s.length < 8 := by omega
      obtain ⟨N', hX, hw⟩ := ih (m ^^^ 2 ^ b) _ (s ++ [b]) (sI (sI N (0, 35) s.length (nI b)) MK 32 (nI (s.length + 1))) (some (vI (nI b))) (some (vI (nI 8))) hlen hmx (by simp; omega)
        (by
          rw [List.pairwise_append]
          refine ⟨hs, List.pairwise_singleton _ _, fun x hx y hy => ?_⟩
          rw [List.mem_singleton.mp hy]
          exact hsy x hx b b1)
        (by
          intro x hx y hy
          obtain ⟨hy1, hy2⟩ := (hmem' y).mp hy
          rcases List.mem_append.mp hx with hx | hx
          · exact hsy x hx y hy1
          · rw [List.mem_singleton.mp hx]
            exact (b2 y hy1).resolve_left hy2)
        (by
          intro y
          rw [hmem, hmem', List.mem_append, List.mem_singleton]
          constructor
          · rintro (h | h)
            · exact Or.inl (Or.inl h)
            · by_cases e : y = b
              · exact Or.inl (Or.inr e)
              · exact Or.inr ⟨h, e⟩
          · rintro ((h | h) | h)
            · exact Or.inl h
            · rw [h]; exact Or.inr b1
            · exact Or.inr h.1)
        (hF.trans (FX_row.trans FX_n))
        (by
          refine ⟨by rw [sI_s]; simp, by simp; omega, fun i x hx => ?_⟩
          by_cases e : i = s.length
          · subst e
            have : x = b := by simpa using hx.symm
            subst this
            simp [sI]
          · have hi : i < s.length := by
              have := get_ltI hx
              simp at this
              omega
            rw [List.getElem?_append_left hi] at hx
            have := r3 i x hx
            simp [sI, e]
            exact this) rfl rfl
      refine ⟨N', hX, ?_⟩
      refine pw_iload_n d_MO_layRow_10 rfl ?_
      refine pw_if_eq (tgt := 91) d_MO_layRow_11 (by decide) (fun hQ => absurd hQ ((fun z => hm0 ((nI_eq (by have := hm.1; omega) (by omega)).mp z)))) (fun _ => ?_)
      refine pw_iconst (-1) d_MO_layRow_14 (by decide) ?_
      refine pw_istore_n d_MO_layRow_15 (by decide) ?_
      dsimp only [stL, kil, isL, cat]
      refine pw_iconst 0 d_MO_layRow_16 (by decide) ?_
      refine pw_istore_n d_MO_layRow_17 (by decide) ?_
      dsimp only [stL, kil, isL, cat]
      refine lp_lay1 (V := V) hN (sm_mps hF.sm hP) hm (fun p hp h => (hn0 p ((hmem p).mpr (Or.inr (List.mem_filter.mpr ⟨List.mem_range.mpr hp, h⟩)))).2) hVN _ _ ?_ 0 (by omega)
      rw [hb]
      refine pw_aload_n d_MO_layRow_62 rfl ?_
      refine pw_getR d_MO_layRow_63 f_MO_53 rfl rfl (rfO hN rfl) ?_
      refine pw_aload_n d_MO_layRow_66 rfl ?_
      refine pw_getI d_MO_layRow_67 f_MO_219 rfl rfl ?_
      rw [r1]
      refine pw_iload_n d_MO_layRow_70 rfl ?_
      refine pw_isN (n := s.length) d_MO_layRow_71 rfl (by omega) (by decide) ?_
      refine pw_aload_n d_MO_layRow_72 rfl ?_
      refine pw_dup d_MO_layRow_73 rfl ?_
      refine pw_getI d_MO_layRow_74 f_MO_219 rfl rfl ?_
      simp (config := {decide := true}) only [rdII, rdLL, rdIL, rdLI, false_and, true_and, and_false, if_true, if_false]
      rw [r1]
      refine pw_iconst 1 d_MO_layRow_77 (by decide) ?_
      refine pw_iadd d_MO_layRow_78 ?_
      rw [nI_1]
      refine pw_putI d_MO_layRow_79 f_MO_219 rfl rfl rfl ?_
      refine pw_iload_n d_MO_layRow_82 rfl ?_
      refine pw_iconst 1 d_MO_layRow_83 (by decide) ?_
      refine pw_iload_n d_MO_layRow_84 rfl ?_
      refine pw_ishl d_MO_layRow_85 ?_
      refine pw_ixor d_MO_layRow_86 ?_
      rw [show bI (some b) = nI b from rfl, (xor_bit m hm.1 b hb8).1]
      refine pw_istore_n d_MO_layRow_87 (by decide) ?_
      dsimp only [stL, kil, isL, cat]
      refine pw_goto (tgt := 10) d_MO_layRow_88 (by decide) ?_
      exact hw
theorem mo_layRow (hM : M.2.2.1 = rf) {cm : Nat → Nat} (hP : MPs M cm) (V : VV) (hV : V = mVV M cm) (m : Nat) (P : Nat → Bool) (hm : bts m P) (hS : M.1 MK 23 = nI m) (h0 : ∀ p, p < 8 → P p = true → 0 < cm p) : ∃ N t, FX M N ∧ ModL N t ∧ t.Pairwise (Rk V) ∧ (∀ y, y ∈ t ↔ y ∈ rgf P 8) ∧ PM G l m_MO_layRow [vR (some MK)] M rV N 0 0 := by
  obtain ⟨N, ⟨hF, t, h1, h2, h3⟩, hw⟩ := lp_lay2 (G := G) (l := l) hM hP V hV (rgf P 8) (fun p hp => ⟨rg_lt hp, h0 p (rg_lt hp) (List.mem_filter.mp hp).2⟩) _ m P [] (sI M MK 32 0) none none rfl hm (by simp; exact rgf_len) List.Pairwise.nil (fun x hx => by simp at hx) (fun y => by simp) FX_n ⟨by rw [sI_s]; rfl, by simp, fun i x hx => by simp at hx⟩ rfl rfl
  refine ⟨N, t, hF, h1, h2, h3, ?_⟩
  refine pm_in [some (vR (some MK)), none, none, none] rfl ?_
  refine pw_aload_n d_MO_layRow_0 rfl ?_
  refine pw_iconst 0 d_MO_layRow_1 (by decide) ?_
  refine pw_putI d_MO_layRow_2 f_MO_219 rfl rfl rfl ?_
  refine pw_aload_n d_MO_layRow_5 rfl ?_
  refine pw_getI d_MO_layRow_6 f_MO_210 rfl rfl ?_
  rw [show (sI M MK 32 0).1 MK 23 = nI m from by rw [← hS]; simp [sI]]
  refine pw_istore_n d_MO_layRow_9 (by decide) ?_
  dsimp only [stL, kil, isL, cat]
  exact hw
end ML
