/-! the class: the samples are sorted -/
def crN (d : Nat → Int64) (k : Nat) : Nat → Nat
  | 0 => 0
  | i + 1 => if d i < d k ∨ (d i = d k ∧ i < k) then crN d k i + 1 else crN d k i
theorem crN_le (d : Nat → Int64) (k : Nat) : ∀ i, crN d k i ≤ i
  | 0 => Nat.le_refl _
  | i + 1 => by
    have := crN_le d k i
    rw [crN]
    split <;> omega
/-- sample i comes before sample k -/
def cl (d : Nat → Int64) (i k : Nat) : Prop := d i < d k ∨ (d i = d k ∧ i < k)
theorem cl_int (d : Nat → Int64) (i k : Nat) : cl d i k ↔ ((d i).toInt < (d k).toInt ∨ ((d i).toInt = (d k).toInt ∧ i < k)) := by
  unfold cl
  rw [Int64.lt_iff_toInt_lt, Int64.toInt_inj]
theorem cl_trans {d : Nat → Int64} {a b c : Nat} (h1 : cl d a b) (h2 : cl d b c) : cl d a c := by
  rw [cl_int] at *
  omega
theorem cl_irr {d : Nat → Int64} {a : Nat} : ¬ cl d a a := by
  rw [cl_int]
  omega
theorem cl_tot {d : Nat → Int64} {a b : Nat} (h : a ≠ b) : cl d a b ∨ cl d b a := by
  rw [cl_int, cl_int]
  omega
theorem crN_succ (d : Nat → Int64) (k i : Nat) : crN d k (i + 1) = crN d k i ∧ ¬ cl d i k ∨ crN d k (i + 1) = crN d k i + 1 ∧ cl d i k := by
  rw [crN]
  by_cases h : cl d i k
  · exact Or.inr ⟨if_pos h, h⟩
  · exact Or.inl ⟨if_neg h, h⟩
theorem cr_mono {d : Nat → Int64} {a b : Nat} : ∀ n, (∀ i, i < n → cl d i a → cl d i b) → crN d a n ≤ crN d b n
  | 0, _ => Nat.le_refl _
  | n + 1, h => by
    have ih := cr_mono n (fun i hi => h i (by omega))
    rcases crN_succ d a n with ⟨e1, h1⟩ | ⟨e1, h1⟩
    · rcases crN_succ d b n with ⟨e2, h2⟩ | ⟨e2, h2⟩ <;> omega
    · have := h n (by omega) h1
      rcases crN_succ d b n with ⟨e2, h2⟩ | ⟨e2, h2⟩
      · exact absurd this h2
      · omega
theorem cr_strict {d : Nat → Int64} {a b j : Nat} : ∀ n, (∀ i, i < n → cl d i a → cl d i b) → j < n → cl d j b → ¬ cl d j a → crN d a n < crN d b n
  | 0, _, hj, _, _ => by omega
  | n + 1, h, hj, h1, h2 => by
    have ihm := cr_mono n (fun i hi => h i (by omega))
    by_cases e : j = n
    · subst e
      rcases crN_succ d a j with ⟨e1, q1⟩ | ⟨e1, q1⟩
      · rcases crN_succ d b j with ⟨e2, q2⟩ | ⟨e2, q2⟩
        · exact absurd h1 q2
        · omega
      · exact absurd q1 h2
    · have ih := cr_strict n (fun i hi => h i (by omega)) (by omega) h1 h2
      rcases crN_succ d a n with ⟨e1, q1⟩ | ⟨e1, q1⟩
      · rcases crN_succ d b n with ⟨e2, q2⟩ | ⟨e2, q2⟩ <;> omega
      · have := h n (by omega) q1
        rcases crN_succ d b n with ⟨e2, q2⟩ | ⟨e2, q2⟩
        · exact absurd this q2
        · omega
theorem cr_lt {d : Nat → Int64} {a b n : Nat} (ha : a < n) (h : cl d a b) : crN d a n < crN d b n := cr_strict n (fun _ _ q => cl_trans q h) ha h cl_irr
theorem cr_inj {d : Nat → Int64} {a b n : Nat} (ha : a < n) (hb : b < n) (h : crN d a n = crN d b n) : a = b := by
  by_cases e : a = b
  · exact e
  · rcases cl_tot (d := d) e with q | q
    · have := cr_lt ha q; omega
    · have := cr_lt hb q; omega
theorem cr_sur (d : Nat → Int64) : ∀ c pl, pl < c → ∃ k, k < c ∧ crN d k c = pl
  | 0, pl, h => by omega
  | c + 1, pl, h => by
    have hr : crN d c (c + 1) = crN d c c := by
      rcases crN_succ d c c with ⟨e, _⟩ | ⟨_, q⟩
      · exact e
      · exact absurd q cl_irr
    have hle := crN_le d c c
    by_cases e : pl = crN d c c
    · exact ⟨c, by omega, by omega⟩
    · by_cases e2 : pl < crN d c c
      · obtain ⟨k, hk, hb⟩ := cr_sur d c pl (by omega)
        have hl : cl d k c := by
          rcases cl_tot (d := d) (a := k) (b := c) (by omega) with q | q
          · exact q
          · have := cr_mono (d := d) (a := c) (b := k) c (fun i _ z => cl_trans z q)
            omega
        refine ⟨k, by omega, ?_⟩
        rcases crN_succ d k c with ⟨e1, _⟩ | ⟨_, q⟩
        · omega
        · exact absurd (cl_trans hl q) cl_irr
      · obtain ⟨k, hk, hb⟩ := cr_sur d c (pl - 1) (by omega)
        have hl : cl d c k := by
          rcases cl_tot (d := d) (a := k) (b := c) (by omega) with q | q
          · have := cr_lt (n := c) hk q
            omega
          · exact q
        refine ⟨k, by omega, ?_⟩
        rcases crN_succ d k c with ⟨_, q⟩ | ⟨e1, _⟩
        · exact absurd hl q
        · omega
theorem cr_ltc {d : Nat → Int64} {k c : Nat} (hk : k < c) : crN d k c < c := by
  have h1 : ∀ n, k < n → crN d k n < n := by
    intro n
    induction n with
    | zero => intro h; omega
    | succ n ih =>
      intro h
      by_cases e : k = n
      · subst e
        have := crN_le d k k
        rcases crN_succ d k k with ⟨e1, _⟩ | ⟨_, q⟩
        · omega
        · exact absurd q cl_irr
      · have := ih (by omega)
        rcases crN_succ d k n with ⟨e1, _⟩ | ⟨e1, _⟩ <;> omega
  exact h1 c hk

/-- an int array of a cell, whole -/
def oI (M : Mem) (k : KK) (f : Nat → Int32) : Mem := (fun q j => if q = k then f j else M.1 q j, M.2)
def up {α : Type} (f : Nat → α) (j : Nat) (x : α) : Nat → α := fun i => if i = j then x else f i
theorem oI_self {M : Mem} {k : KK} : oI M k (M.1 k) = M := by
  unfold oI
  refine Prod.ext ?_ rfl
  funext q j
  show ite _ _ _ = _
  by_cases h : q = k
  · rw [if_pos h, h]
  · rw [if_neg h]
theorem oI_at {M : Mem} {k : KK} {f : Nat → Int32} {j : Nat} : (oI M k f).1 k j = f j := by simp [oI]
theorem oI_ne {M : Mem} {k q : KK} {f : Nat → Int32} {j : Nat} (h : q ≠ k) : (oI M k f).1 q j = M.1 q j := by simp [oI, h]
theorem sI_oI {M : Mem} {k : KK} {f : Nat → Int32} {j : Nat} {x : Int32} : sI (oI M k f) k j x = oI M k (up f j x) := by
  unfold sI oI up
  refine Prod.ext ?_ rfl
  funext q i
  show ite _ _ (ite _ _ _) = ite _ (ite _ _ _) _
  by_cases h : q = k
  · by_cases h2 : i = j
    · simp [h, h2]
    · simp [h, h2]
  · simp [h]
abbrev tn (x : Int32) : Nat := x.toNatClampNeg
/-- the first i samples stand sorted in the first i places -/
def SO (d : Nat → Int64) (i : Nat) (o : Nat → Int32) : Prop := ∀ pl, pl < i → tn (o pl) < i ∧ o pl = nI (tn (o pl)) ∧ crN d (tn (o pl)) i = pl
def mv {α : Type} (o : Nat → α) (q i : Nat) : Nat → α := fun x => if q < x ∧ x ≤ i then o (x - 1) else o x
def insO (o : Nat → Int32) (q i : Nat) : Nat → Int32 := up (mv o q i) q (nI i)
theorem mv_i {α : Type} (o : Nat → α) (i : Nat) : mv o i i = o := by
  funext x
  unfold mv
  rw [if_neg (by omega)]
theorem mv_step {α : Type} (o : Nat → α) (q i : Nat) (hq : 0 < q) (h : q ≤ i) : up (mv o q i) q (mv o q i (q - 1)) = mv o (q - 1) i := by
  funext x
  unfold up mv
  by_cases h1 : x = q
  · subst h1
    rw [if_pos rfl, if_neg (by omega), if_pos (by omega)]
  · rw [if_neg h1]
    by_cases h2 : q < x ∧ x ≤ i
    · rw [if_pos h2, if_pos (by omega)]
    · rw [if_neg h2, if_neg (by omega)]
theorem tn_nI {n : Nat} (h : n < 2 ^ 31) : tn (nI n) = n := nI_clamp h
theorem SO_ins {d : Nat → Int64} {i q : Nat} {o : Nat → Int32} (hi : i < 8) (hS : SO d i o) (hq : q ≤ i) (hgt : ∀ x, q ≤ x → x < i → d i < d (tn (o x))) (hle : 0 < q → ¬ d i < d (tn (o (q - 1)))) : SO d (i + 1) (insO o q i) := by
  -- before q: not above
  have hbe : ∀ x, x < q → crN d (tn (o x)) (i + 1) = x := by
    intro x hx
    obtain ⟨h1, h2, h3⟩ := hS x (by omega)
    rcases crN_succ d (tn (o x)) i with ⟨e, _⟩ | ⟨_, hb⟩
    · omega
    · exfalso
      have hl := hle (by omega)
      obtain ⟨g1, g2, g3⟩ := hS (q - 1) (by omega)
      rw [cl_int] at hb
      rw [Int64.lt_iff_toInt_lt] at hl
      by_cases e : x = q - 1
      · subst e; omega
      · have : cl d (tn (o x)) (tn (o (q - 1))) := by
          rcases cl_tot (d := d) (a := tn (o x)) (b := tn (o (q - 1))) (fun z => by rw [z] at h3; omega) with z | z
          · exact z
          · have := cr_lt (n := i) g1 z
            omega
        rw [cl_int] at this
        omega
  have haf : ∀ x, q ≤ x → x < i → crN d (tn (o x)) (i + 1) = x + 1 := by
    intro x hx hx2
    obtain ⟨h1, h2, h3⟩ := hS x hx2
    rcases crN_succ d (tn (o x)) i with ⟨_, hb⟩ | ⟨e, _⟩
    · exact absurd (Or.inl (hgt x hx hx2)) hb
    · omega
  have hat : crN d i (i + 1) = q := by
    obtain ⟨k, hk, e⟩ := cr_sur d (i + 1) q (by omega)
    by_cases hki : k = i
    · rw [← hki] at e ⊢; exact e
    · exfalso
      have hk2 : k < i := by omega
      have hx := cr_ltc (d := d) hk2
      obtain ⟨h1, h2, h3⟩ := hS (crN d k i) hx
      have := cr_inj h1 hk2 h3
      rw [← this] at e
      by_cases hxq : crN d k i < q
      · have := hbe _ hxq; omega
      · have := haf _ (by omega) hx; omega
  intro pl hpl
  unfold insO up
  by_cases e : pl = q
  · subst e
    rw [if_pos rfl, tn_nI (by omega)]
    exact ⟨by omega, rfl, hat⟩
  · rw [if_neg e]
    unfold mv
    by_cases h2 : q < pl ∧ pl ≤ i
    · rw [if_pos h2]
      obtain ⟨h1, h3, h4⟩ := hS (pl - 1) (by omega)
      refine ⟨by omega, h3, ?_⟩
      have := haf (pl - 1) (by omega) (by omega)
      omega
    · rw [if_neg h2]
      obtain ⟨h1, h3, h4⟩ := hS pl (by omega)
      exact ⟨by omega, h3, hbe pl (by omega)⟩
section ST
variable {G : GG} {l : Launch} {M : Mem}
theorem lp_sortA (hM : M.2.2.1 = rf) (p i : Nat) (hi : i < 8) (o : Nat → Int32) (hS : SO (M.2.1 (p + 1, 2)) i o) (X : Mem → Prop)
    (hend : ∀ q, q ≤ i → (∀ x, q ≤ x → x < i → M.2.1 (p + 1, 2) i < M.2.1 (p + 1, 2) (tn (o x))) → (0 < q → ¬ M.2.1 (p + 1, 2) i < M.2.1 (p + 1, 2) (tn (o (q - 1)))) → ∃ M', X M' ∧ PW G l m_PE_sortSamples 59 [some (vR (some (PEK p))), some (vI (nI i)), some (vI (nI q))] [] (oI M (p + 1, 5) (mv o q i)) rV M' 0 0) :
    ∀ q, q ≤ i → (∀ x, q ≤ x → x < i → M.2.1 (p + 1, 2) i < M.2.1 (p + 1, 2) (tn (o x))) → ∃ M', X M' ∧ PW G l m_PE_sortSamples 12 [some (vR (some (PEK p))), some (vI (nI i)), some (vI (nI q))] [] (oI M (p + 1, 5) (mv o q i)) rV M' 0 0 := by
  intro q
  induction q with
  | zero =>
    intro h0 hgt
    obtain ⟨M', hX, hw⟩ := hend 0 h0 hgt (fun z => by omega)
    refine ⟨M', hX, ?_⟩
    refine pw_iload_n d_PE_sortSamples_12 rfl ?_
    refine pw_if_le (tgt := 59) d_PE_sortSamples_13 (by decide) (fun _ => ?_) (fun h => absurd ((by decide)) h)
    exact hw
  | succ q ih =>
    intro hq hgt
    obtain ⟨h1, h2, h3⟩ := hS q (by omega)
    have em : mv o (q + 1) i q = o q := by unfold mv; rw [if_neg (by omega)]
    have hM2 : (oI M (p + 1, 5) (mv o (q + 1) i)).2.2.1 = rf := hM
    by_cases hc : M.2.1 (p + 1, 2) i < M.2.1 (p + 1, 2) (tn (o q))
    · obtain ⟨M', hX, hw⟩ := ih (by omega) (fun x hx hx2 => by
        by_cases e : x = q
        · subst e; exact hc
        · exact hgt x (by omega) hx2)
      refine ⟨M', hX, ?_⟩
      refine pw_iload_n d_PE_sortSamples_12 rfl ?_
      refine pw_if_le (tgt := 59) d_PE_sortSamples_13 (by decide) (fun h => absurd h ((nI_nle (by omega) (by omega)))) (fun _ => ?_)
      refine pw_aload_n d_PE_sortSamples_16 rfl ?_
      refine pw_getR d_PE_sortSamples_17 f_PE_15 rfl rfl (rfO hM2 rfl) ?_
      refine pw_aload_n d_PE_sortSamples_20 rfl ?_
      refine pw_getR d_PE_sortSamples_21 f_PE_25 rfl rfl (rfO hM2 rfl) ?_
      refine pw_iload_n d_PE_sortSamples_24 rfl ?_
      refine pw_iconst 1 d_PE_sortSamples_25 (by decide) ?_
      refine pw_isub d_PE_sortSamples_26 ?_
      rw [nI_pred]
      refine pw_iaN (n := q) d_PE_sortSamples_27 rfl (by omega) (by decide) ?_
      rw [oI_at, em, h2]
      refine pw_laN (n := tn (o q)) d_PE_sortSamples_28 rfl (by omega) (by decide) ?_
      refine pw_aload_n d_PE_sortSamples_29 rfl ?_
      refine pw_getR d_PE_sortSamples_30 f_PE_15 rfl rfl (rfO hM2 rfl) ?_
      refine pw_iload_n d_PE_sortSamples_33 rfl ?_
      refine pw_laN (n := i) d_PE_sortSamples_34 rfl (by omega) (by decide) ?_
      refine pw_lcmp d_PE_sortSamples_35 ?_
      refine pw_if_le (tgt := 59) d_PE_sortSamples_36 (by decide) (fun h => absurd h ((fun z => (lg_le _ _).mp z hc))) (fun _ => ?_)
      refine pw_aload_n d_PE_sortSamples_39 rfl ?_
      refine pw_getR d_PE_sortSamples_40 f_PE_25 rfl rfl (rfO hM2 rfl) ?_
      refine pw_iload_n d_PE_sortSamples_43 rfl ?_
      refine pw_aload_n d_PE_sortSamples_44 rfl ?_
      refine pw_getR d_PE_sortSamples_45 f_PE_25 rfl rfl (rfO hM2 rfl) ?_
      refine pw_iload_n d_PE_sortSamples_48 rfl ?_
      refine pw_iconst 1 d_PE_sortSamples_49 (by decide) ?_
      refine pw_isub d_PE_sortSamples_50 ?_
      rw [nI_pred]
      refine pw_iaN (n := q) d_PE_sortSamples_51 rfl (by omega) (by decide) ?_
      refine pw_isN (n := q + 1) d_PE_sortSamples_52 rfl (by omega) (by decide) ?_
      refine pw_iinc (-1) d_PE_sortSamples_53 rfl (by decide) (by decide) ?_
      dsimp only [stL, kil, isL, cat]
      refine pw_goto (tgt := 12) d_PE_sortSamples_56 (by decide) ?_
      rw [i32_m1, nI_pred, oI_at, sI_oI]
      have e := mv_step o (q + 1) i (by omega) hq
      rw [show q + 1 - 1 = q from rfl] at e
      rw [e]
      exact hw
    · obtain ⟨M', hX, hw⟩ := hend (q + 1) hq hgt (fun _ => hc)
      refine ⟨M', hX, ?_⟩
      refine pw_iload_n d_PE_sortSamples_12 rfl ?_
      refine pw_if_le (tgt := 59) d_PE_sortSamples_13 (by decide) (fun h => absurd h ((nI_nle (by omega) (by omega)))) (fun _ => ?_)
      refine pw_aload_n d_PE_sortSamples_16 rfl ?_
      refine pw_getR d_PE_sortSamples_17 f_PE_15 rfl rfl (rfO hM2 rfl) ?_
      refine pw_aload_n d_PE_sortSamples_20 rfl ?_
      refine pw_getR d_PE_sortSamples_21 f_PE_25 rfl rfl (rfO hM2 rfl) ?_
      refine pw_iload_n d_PE_sortSamples_24 rfl ?_
      refine pw_iconst 1 d_PE_sortSamples_25 (by decide) ?_
      refine pw_isub d_PE_sortSamples_26 ?_
      rw [nI_pred]
      refine pw_iaN (n := q) d_PE_sortSamples_27 rfl (by omega) (by decide) ?_
      rw [oI_at, em, h2]
      refine pw_laN (n := tn (o q)) d_PE_sortSamples_28 rfl (by omega) (by decide) ?_
      refine pw_aload_n d_PE_sortSamples_29 rfl ?_
      refine pw_getR d_PE_sortSamples_30 f_PE_15 rfl rfl (rfO hM2 rfl) ?_
      refine pw_iload_n d_PE_sortSamples_33 rfl ?_
      refine pw_laN (n := i) d_PE_sortSamples_34 rfl (by omega) (by decide) ?_
      refine pw_lcmp d_PE_sortSamples_35 ?_
      refine pw_if_le (tgt := 59) d_PE_sortSamples_36 (by decide) (fun _ => ?_) (fun h => absurd ((lg_le _ _).mpr hc) h)
      exact hw
theorem lp_sortB (hM : M.2.2.1 = rf) (p c : Nat) (hc : c ≤ 8) (hC : M.1 (PEK p) 6 = nI c) : ∀ i, i ≤ c → ∀ (o : Nat → Int32) (x : Option PV), SO (M.2.1 (p + 1, 2)) i o → ∃ M', (∃ o', SO (M.2.1 (p + 1, 2)) c o' ∧ M' = oI M (p + 1, 5) o') ∧ PW G l m_PE_sortSamples 2 [some (vR (some (PEK p))), some (vI (nI i)), x] [] (oI M (p + 1, 5) o) rV M' 0 0 := by
  refine lpU ?_ ?_
  · intro o x hS
    refine ⟨_, ⟨o, hS, rfl⟩, ?_⟩
    refine pw_iload_n d_PE_sortSamples_2 rfl ?_
    refine pw_aload_n d_PE_sortSamples_3 rfl ?_
    refine pw_getI d_PE_sortSamples_4 f_PE_39 rfl rfl ?_
    rw [oI_ne (by simp), hC]
    refine pw_icmp_ge (tgt := 72) d_PE_sortSamples_7 (by decide) (fun _ => ?_) (fun h => absurd (nI_le (Nat.le_refl c) (by omega)) h)
    refine pw_return d_PE_sortSamples_72 rfl ?_ ?_
    · rfl
    · rfl
  · intro i hi ih o x hS
    have h := lp_sortA (G := G) (l := l) hM p i (by omega) o hS (fun M' => ∃ o', SO (M.2.1 (p + 1, 2)) c o' ∧ M' = oI M (p + 1, 5) o') ?_ i (Nat.le_refl _) (fun x h1 h2 => by omega)
    · obtain ⟨M', hX, hw⟩ := h
      refine ⟨M', hX, ?_⟩
      rw [mv_i] at hw
      refine pw_iload_n d_PE_sortSamples_2 rfl ?_
      refine pw_aload_n d_PE_sortSamples_3 rfl ?_
      refine pw_getI d_PE_sortSamples_4 f_PE_39 rfl rfl ?_
      rw [oI_ne (by simp), hC]
      refine pw_icmp_ge (tgt := 72) d_PE_sortSamples_7 (by decide) (fun h => absurd h (nI_ge hi (by omega))) (fun _ => ?_)
      refine pw_iload_n d_PE_sortSamples_10 rfl ?_
      refine pw_istore_n d_PE_sortSamples_11 (by decide) ?_
      dsimp only [stL, kil, isL, cat]
      exact hw
    · intro q hq hgt hle
      have hM2 : (oI M (p + 1, 5) (mv o q i)).2.2.1 = rf := hM
      obtain ⟨M', hX, hw⟩ := ih (insO o q i) (some (vI (nI q))) (SO_ins (by omega) hS hq hgt hle)
      refine ⟨M', hX, ?_⟩
      refine pw_aload_n d_PE_sortSamples_59 rfl ?_
      refine pw_getR d_PE_sortSamples_60 f_PE_25 rfl rfl (rfO hM2 rfl) ?_
      refine pw_iload_n d_PE_sortSamples_63 rfl ?_
      refine pw_iload_n d_PE_sortSamples_64 rfl ?_
      refine pw_isN (n := q) d_PE_sortSamples_65 rfl (by omega) (by decide) ?_
      refine pw_iinc (1) d_PE_sortSamples_66 rfl (by decide) (by decide) ?_
      dsimp only [stL, kil, isL, cat]
      refine pw_goto (tgt := 2) d_PE_sortSamples_69 (by decide) ?_
      rw [nI_1, sI_oI]
      exact hw
theorem pm_sortSamples (hM : M.2.2.1 = rf) (p c : Nat) (hc : c ≤ 8) (hC : M.1 (PEK p) 6 = nI c) : ∃ o', SO (M.2.1 (p + 1, 2)) c o' ∧ PM G l m_PE_sortSamples [vR (some (PEK p))] M rV (oI M (p + 1, 5) o') 0 0 := by
  obtain ⟨M', ⟨o', hS, e⟩, hw⟩ := lp_sortB (G := G) (l := l) hM p c hc hC 0 (by omega) (M.1 (p + 1, 5)) none (fun pl h => by omega)
  subst e
  refine ⟨o', hS, ?_⟩
  refine pm_in [some (vR (some (PEK p))), none, none] rfl ?_
  refine pw_iconst 0 d_PE_sortSamples_0 (by decide) ?_
  refine pw_istore_n d_PE_sortSamples_1 (by decide) ?_
  dsimp only [stL, kil, isL, cat]
  rw [oI_self] at hw
  exact hw
end ST
