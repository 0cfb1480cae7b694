/-! the tests, the choice and the leading, on both sides at once -/
theorem ft_eq {b0 b1 len : Int32} {tr og rc ls sn tw tw' off : Int64} (hb : byteOK b0) (h7 : (2097152 < tw) ↔ (68719476736 < tw')) : ftC len b0 b1 tr og rc ls sn tw off = ftM len b0 b1 tr og rc ls sn tw' off := by
  obtain ⟨b, hb1, rfl⟩ := byteN hb
  obtain ⟨v1, v2, v3, v4, v5, v6⟩ := b_ver b hb1
  unfold ftC ftM
  rw [v1, v2, v3, v4, v5, v6]
  have e : (1 ≤ nI (b / 8 % 8) ∧ nI (b / 8 % 8) ≤ 4) = (¬ nI (b / 8 % 8) < 1 ∧ ¬ 4 < nI (b / 8 % 8)) := propext (by
    rw [Int32.le_iff_toInt_le, Int32.le_iff_toInt_le, Int32.lt_iff_toInt_lt, Int32.lt_iff_toInt_lt]
    omega)
  have e7 : ((2097152 : Int64) < tw) = (68719476736 < tw') := propext h7
  simp only [e, e7]
theorem tw_eq {f : Nat → Int32} (hf : ∀ j, byteOK (f j)) : (2097152 < rdN f 4 4 + 2 * rdN f 8 4) ↔ (68719476736 < rdN f 4 4 * 65536 / 2 + rdN f 8 4 * 65536) := by
  obtain ⟨a, ha, ea⟩ := rd_b hf 4 4 (by decide)
  obtain ⟨b, hb, eb⟩ := rd_b hf 8 4 (by decide)
  have ha' : a < 4294967296 := ha
  have hb' : b < 4294967296 := hb
  rw [ea, eb, show (2 : Int64) = lN 2 from rfl, show (65536 : Int64) = lN 65536 from rfl, lN_mul, lN_mul, lN_mul, pk_lDiv (by omega) (by omega) (by omega), lN_add, lN_add, show (2097152 : Int64) = lN 2097152 from rfl, show (68719476736 : Int64) = lN 68719476736 from rfl, pk_lLT (by omega) (by omega), pk_lLT (by omega) (by omega)]
  omega
theorem if_n0 {c : Prop} [Decidable c] {k x : Int32} (hk : ¬ k = 0) (h : (if c then k else x) = 0) : ¬ c ∧ x = 0 := by
  by_cases q : c
  · rw [if_pos q] at h
    exact absurd h hk
  · rw [if_neg q] at h
    exact ⟨q, h⟩
theorem if_y0 {c : Prop} [Decidable c] {k x : Int32} (hk : ¬ k = 0) (h : (if c then x else k) = 0) : c ∧ x = 0 := by
  by_cases q : c
  · rw [if_pos q] at h
    exact ⟨q, h⟩
  · rw [if_neg q] at h
    exact absurd h hk
theorem ft_0 {b0 b1 len : Int32} {tr og rc ls sn tw off : Int64} (h : ftM len b0 b1 tr og rc ls sn tw off = 0) (hb : byteOK b1) : (∃ s, s ≤ 15 ∧ b1 = nI s) ∧ oB off := by
  unfold ftM at h
  obtain ⟨_, h⟩ := if_y0 (by decide) h
  obtain ⟨_, h⟩ := if_y0 (by decide) h
  obtain ⟨_, h⟩ := if_n0 (by decide) h
  obtain ⟨_, h⟩ := if_n0 (by decide) h
  obtain ⟨_, h⟩ := if_n0 (by decide) h
  obtain ⟨a6, h⟩ := if_n0 (by decide) h
  obtain ⟨_, h⟩ := if_n0 (by decide) h
  obtain ⟨a8, _⟩ := if_n0 (by decide) h
  simp only [not_or, Classical.not_not] at a6 a8
  constructor
  · obtain ⟨b, hb, rfl⟩ := byteN hb
    refine ⟨b, ?_, rfl⟩
    have := a6.2.2
    rw [Int32.le_iff_toInt_le, nI_toInt (by omega)] at this
    have e : (15 : Int32).toInt = 15 := by decide
    omega
  · obtain ⟨x1, x2⟩ := a8
    rw [Int64.lt_iff_toInt_lt] at x1 x2
    have e1 : (-1099511627776 : Int64).toInt = -1099511627776 := by decide
    have e2 : (1099511627776 : Int64).toInt = 1099511627776 := by decide
    unfold oB
    omega
theorem ft_p (b0 b1 len : Int32) (tr og rc ls sn tw off : Int64) : ftM len b0 b1 tr og rc ls sn tw off = 0 ∨ ¬ ftM len b0 b1 tr og rc ls sn tw off ≤ 0 := by
  unfold ftM
  repeat' split
  all_goals first | exact Or.inl rfl | exact Or.inr (by decide)
/-! the reference's peers, when only its own keys are kept -/
section ME
variable {B N : Mem}
theorem mE_dl (h : mE B N) (p : Nat) : mdl N p = mdl B p := by
  funext i
  show N.2.1 (0, 32) _ = B.2.1 (0, 32) _
  rw [(h.1 32 (by decide) (by decide)).2]
theorem mE_Ok (h : mE B N) (p c pl : Nat) : mOk N p c pl = mOk B p c pl := by
  show 8 * p + odK (mdl N p) c pl = _
  rw [mE_dl h p]
theorem mE_Of (h : mE B N) (p c : Nat) : mOf N p c = mOf B p c := by
  unfold mOf
  rw [mE_Ok h, (h.1 31 (by decide) (by decide)).2]
theorem mE_Js (h : mE B N) (p c : Nat) : mJs N p c = mJs B p c := by
  unfold mJs
  rw [mE_Of h]
  simp only [mE_Ok h, (h.1 31 (by decide) (by decide)).2]
theorem mE_Ji (h : mE B N) (p c : Nat) : mJi N p c = mJi B p c := by
  unfold mJi
  rw [mE_Js h]
theorem mE_Dt (h : mE B N) (p c : Nat) : mDt N p c = mDt B p c := by
  unfold mDt mDe mDs mNw
  rw [mE_Ji h, (h.1 27 (by decide) (by decide)).2, (h.1 28 (by decide) (by decide)).2]
  simp only [mE_Ok h, (h.1 32 (by decide) (by decide)).2, (h.1 33 (by decide) (by decide)).2, (h.1 34 (by decide) (by decide)).1, h.2.1 6 (by decide) (by decide)]
theorem mE_VV (h : mE B N) (cm : Nat → Nat) : mVV N cm = mVV B cm := by
  unfold mVV
  simp only [mE_Of h, mE_Dt h, mE_Ji h, (h.1 26 (by decide) (by decide)).1]
theorem mE_ps (h : mE B N) {cm : Nat → Nat} (hP : MPs B cm) : MPs N cm := fun p hp => by
  rw [mE_Js h, (h.1 29 (by decide) (by decide)).1]
  exact hP p hp
theorem mE_cd (h : mE B N) (cm : Nat → Nat) (V : VV) : mcd N cm V = mcd B cm V := by
  funext p
  unfold mcd
  rw [(h.1 25 (by decide) (by decide)).1]
theorem mE_tk (h : mE B N) (p c : Nat) : mE (tkM B p c) (tkM N p c) := by
  unfold tkM
  rw [(h.1 31 (by decide) (by decide)).2, (h.1 32 (by decide) (by decide)).2, (h.1 33 (by decide) (by decide)).2, (h.1 34 (by decide) (by decide)).1, (h.1 21 (by decide) (by decide)).1, (h.1 23 (by decide) (by decide)).2, (h.1 25 (by decide) (by decide)).1, h.2.2, h.2.1 6 (by decide) (by decide)]
  refine ⟨fun j a b => ?_, fun j a b => ?_, ?_⟩
  · have hj := h.1 j a b
    constructor
    · funext i
      have hi := congrFun hj.1 i
      simp [tkE, ma, sI, sL, hi]
    · funext i
      have hi := congrFun hj.2 i
      simp [tkE, ma, sI, sL, hi]
  · have hj := h.2.1 j a b
    simp [tkE, ma, sI, sL, hj]
  · funext i
    have hi := congrFun h.2.2 i
    simp [tkE, ma, sI, sL, hi]
theorem mE_lk (h : mE B N) (p : Nat) (v : Int32) : mE (sI B (0, 30) p v) (sI N (0, 30) p v) := by
  refine ⟨fun j a b => ⟨?_, (h.1 j a b).2⟩, fun j a b => ?_, h.2.2⟩
  · funext i
    have hi := congrFun (h.1 j a b).1 i
    simp [sI, hi]
  · have hj := h.2.1 j a b
    simp [sI, hj]
theorem tkM_cQ (p c : Nat) : cQ N (tkM N p c) := ⟨fun q j => tkM_f (fun i _ _ _ e => by injection e with e; omega), fun j hj => tkM_f (fun i a _ _ e => by injection e with _ e; omega)⟩
theorem tkM_MK (p c : Nat) : (tkM N p c).1 MK = N.1 MK ∧ (tkM N p c).2.1 MK = N.2.1 MK := tkM_f (fun i a _ _ e => by injection e with _ e; omega)
end ME
/-! the leading -/
def jn (c p b : Int32) : Int32 × Int32 := if jc2 c p b ≤ 30 then (if -30 ≤ jc2 c p b then (jc2 c p b, p) else (0, if 4 < p - 1 then p - 1 else 4)) else (0, if p + 1 < 10 then p + 1 else 10)
theorem jg_c {X : Mem} {b : Int32} : (jgC X b).1 TPK = up (up (X.1 TPK) 6 (jn (X.1 TPK 6) (X.1 TPK 5) b).1) 5 (jn (X.1 TPK 6) (X.1 TPK 5) b).2 ∧ (jgC X b).2 = X.2 ∧ ∀ k, k ≠ TPK → (jgC X b).1 k = X.1 k := by
  unfold jgC jn
  split
  · split
    · refine ⟨?_, rfl, fun k hk => ?_⟩
      · funext i
        by_cases h5 : i = 5
        · subst h5; simp [sI, up]
        · simp [sI, up, h5]
      · funext i
        simp [sI, hk]
    · refine ⟨?_, rfl, fun k hk => ?_⟩
      · funext i
        by_cases h5 : i = 5
        · subst h5; simp [sI, up]
        · by_cases h6 : i = 6
          · subst h6; simp [sI, up]
          · simp [sI, up, h5, h6]
      · funext i
        simp [sI, hk]
  · refine ⟨?_, rfl, fun k hk => ?_⟩
    · funext i
      by_cases h5 : i = 5
      · subst h5; simp [sI, up]
      · by_cases h6 : i = 6
        · subst h6; simp [sI, up]
        · simp [sI, up, h5, h6]
    · funext i
      simp [sI, hk]
theorem pq_eq : ∀ q, q ≤ 10 → (if nI q ≤ 4 then 4 else nI q - 1) = (if 4 < nI q - 1 then nI q - 1 else 4) ∧ (if (10 : Int32) ≤ nI q then 10 else nI q + 1) = (if nI q + 1 < 10 then nI q + 1 else 10) ∧ (4 ≤ q → (∃ q', 4 ≤ q' ∧ q' ≤ 10 ∧ (if 4 < nI q - 1 then nI q - 1 else 4) = nI q') ∧ ∃ q', 4 ≤ q' ∧ q' ≤ 10 ∧ (if nI q + 1 < 10 then nI q + 1 else 10) = nI q') := by
  intro q hq
  have h : q = 0 ∨ q = 1 ∨ q = 2 ∨ q = 3 ∨ q = 4 ∨ q = 5 ∨ q = 6 ∨ q = 7 ∨ q = 8 ∨ q = 9 ∨ q = 10 := by omega
  rcases h with rfl | rfl | rfl | rfl | rfl | rfl | rfl | rfl | rfl | rfl | rfl
  · exact ⟨by decide, by decide, fun h => by omega⟩
  · exact ⟨by decide, by decide, fun h => by omega⟩
  · exact ⟨by decide, by decide, fun h => by omega⟩
  · exact ⟨by decide, by decide, fun h => by omega⟩
  · exact ⟨by decide, by decide, fun _ => ⟨⟨4, by decide⟩, ⟨5, by decide⟩⟩⟩
  · exact ⟨by decide, by decide, fun _ => ⟨⟨4, by decide⟩, ⟨6, by decide⟩⟩⟩
  · exact ⟨by decide, by decide, fun _ => ⟨⟨5, by decide⟩, ⟨7, by decide⟩⟩⟩
  · exact ⟨by decide, by decide, fun _ => ⟨⟨6, by decide⟩, ⟨8, by decide⟩⟩⟩
  · exact ⟨by decide, by decide, fun _ => ⟨⟨7, by decide⟩, ⟨9, by decide⟩⟩⟩
  · exact ⟨by decide, by decide, fun _ => ⟨⟨8, by decide⟩, ⟨10, by decide⟩⟩⟩
  · exact ⟨by decide, by decide, fun _ => ⟨⟨9, by decide⟩, ⟨10, by decide⟩⟩⟩
theorem jn_q {c b : Int32} {q : Nat} (h4 : 4 ≤ q) (hq : q ≤ 10) : ∃ q', 4 ≤ q' ∧ q' ≤ 10 ∧ (jn c (nI q) b).2 = nI q' := by
  obtain ⟨_, _, h⟩ := pq_eq q hq
  obtain ⟨a, b'⟩ := h h4
  unfold jn
  split
  · split
    · exact ⟨q, h4, hq, rfl⟩
    · exact a
  · exact b'
theorem tr_m {X : Mem} {b : Int32} {q : Nat} (hq : q ≤ 10) (h33 : X.1 MK 33 = nI q) : (trM X b).1 MK = up (up (X.1 MK) 34 (jn (X.1 MK 34) (nI q) b).1) 33 (jn (X.1 MK 34) (nI q) b).2 ∧ (trM X b).2 = X.2 ∧ ∀ k, k ≠ MK → (trM X b).1 k = X.1 k := by
  obtain ⟨p1, p2, _⟩ := pq_eq q hq
  unfold trM jn
  rw [h33, p1, p2]
  split
  · split
    · refine ⟨?_, rfl, fun k hk => ?_⟩
      · funext i
        by_cases h5 : i = 33
        · subst h5; simp [sI, up, h33]
        · simp [sI, up, h5]
      · funext i
        simp [sI, hk]
    · refine ⟨?_, rfl, fun k hk => ?_⟩
      · funext i
        by_cases h5 : i = 33
        · subst h5; simp [sI, up]
        · by_cases h6 : i = 34
          · subst h6; simp [sI, up]
          · simp [sI, up, h5, h6]
      · funext i
        simp [sI, hk]
  · refine ⟨?_, rfl, fun k hk => ?_⟩
    · funext i
      by_cases h5 : i = 33
      · subst h5; simp [sI, up]
      · by_cases h6 : i = 34
        · subst h6; simp [sI, up]
        · simp [sI, up, h5, h6]
    · funext i
      simp [sI, hk]
def sCm (M B : Mem) : Prop := (B.1 MK 6 = M.1 MK 6 ∧ B.1 MK 33 = M.1 MK 33 ∧ B.1 MK 34 = M.1 MK 34 ∧ B.1 MK 35 = M.1 MK 35 ∧ B.1 MK 36 = M.1 MK 36 ∧ B.1 MK 37 = M.1 MK 37) ∧ B.2.1 MK 5 = M.2.1 MK 5 ∧ B.2.1 MK 7 = M.2.1 MK 7 ∧ B.2.1 MK 8 = M.2.1 MK 8 ∧ B.2.1 MK 9 = M.2.1 MK 9
section RCL
variable {M A B : Mem} {u ld q : Nat}
/-- whether the clock may be set at once: both sides agree -/
theorem step_iff (rc : RC M u ld q) (hu : u ≤ 2097152) (hl : ld < 2 ^ 30) (h1 : A.1 TPK = M.1 TPK) (hB : sCm M B) : (A.1 TPK 7 = -1 ∨ 300 ≤ snc A) ↔ (B.1 MK 36 ≤ 0 ∨ 300 ≤ B.1 MK 6 - B.1 MK 37) := by
  obtain ⟨⟨c1, c2, c3, c4, c5, c6⟩, ⟨c7, c8, c9, c10, c11, c12⟩, c13, c14, c15, c16⟩ := rc
  obtain ⟨⟨b1, b2, b3, b4, b5, b6⟩, b7⟩ := hB
  unfold snc
  rw [h1, b5, b1, b6, c12, c3, c2]
  by_cases h0 : ld = 0
  · subst h0
    exact ⟨fun _ => Or.inl (by decide), fun _ => Or.inl (c13 rfl)⟩
  · obtain ⟨e, a, ha, e2⟩ := c14 (by omega)
    have ne : ¬ nI a = -1 := fun z => by
      have := congrArg Int32.toInt z
      rw [nI_toInt (by omega)] at this
      have m1 : (-1 : Int32).toInt = -1 := by decide
      omega
    rw [e, e2, if_neg ne]
    constructor
    · rintro (z | z)
      · exact absurd z ne
      · exact Or.inr z
    · rintro (z | z)
      · exact absurd z (by
          rw [Int32.le_iff_toInt_le, nI_toInt (by omega), Int32.toInt_zero]
          omega)
      · exact Or.inr z
theorem snc_u (rc : RC M u ld q) (hu : u ≤ 2097152) (hl : ld < 2 ^ 30) (h1 : A.1 TPK = M.1 TPK) (hB : sCm M B) : (mn24 (snc A)).toInt64 = uM (B.1 MK 36) (B.1 MK 6 - B.1 MK 37) := by
  obtain ⟨⟨c1, c2, c3, c4, c5, c6⟩, ⟨c7, c8, c9, c10, c11, c12⟩, c13, c14, c15, c16⟩ := rc
  obtain ⟨⟨b1, b2, b3, b4, b5, b6⟩, b7⟩ := hB
  rw [mn_u]
  unfold snc uM
  rw [h1, b5, b1, b6, c12, c3, c2]
  by_cases h0 : ld = 0
  · subst h0
    rw [c13 rfl, if_pos rfl, if_pos (by decide), if_pos (by decide)]
    rfl
  · obtain ⟨e, a, ha, e2⟩ := c14 (by omega)
    have ne : ¬ nI a = -1 := fun z => by
      have := congrArg Int32.toInt z
      rw [nI_toInt (by omega)] at this
      have m1 : (-1 : Int32).toInt = -1 := by decide
      omega
    rw [e, e2, if_neg ne, if_neg (nI_ne0 (by omega) (by omega))]
theorem RC_step (rc : RC M u ld q) (h1 : A.1 TPK = M.1 TPK) (h2 : A.2.1 TPK = M.2.1 TPK) (hB : sCm M B) (off : Int64) (hT1 : B.1 TPK = (stC A off).1 TPK) (hT2 : B.2.1 TPK = (stC A off).2.1 TPK) : RC (stM B off) u (ld + 1) q := by
  obtain ⟨⟨c1, c2, c3, c4, c5, c6⟩, ⟨c7, c8, c9, c10, c11, c12⟩, c13, c14, c15, c16⟩ := rc
  obtain ⟨⟨b1, b2, b3, b4, b5, b6⟩, b7, b8, b9, b10⟩ := hB
  have e1 : (stM B off).1 TPK = (stC A off).1 TPK := by rw [← hT1]; funext i; simp [stM, mkM, fgM, sI, sL]
  have e2 : (stM B off).2.1 TPK = (stC A off).2.1 TPK := by rw [← hT2]; funext i; simp [stM, mkM, fgM, sI, sL]
  unfold RC
  rw [e1, e2]
  refine ⟨⟨?_, ?_, ?_, ?_, ?_, ?_⟩, ⟨?_, ?_, ?_, ?_, ?_, ?_⟩, fun h => by omega, fun _ => ⟨?_, u, Nat.le_refl _, ?_⟩, c15, c16⟩
  · simp [stM, stC, mkL, mkM, fgM, sI, sL, h2]; exact c1.trans b7.symm
  · rw [← c2, ← h1]; simp [stC, mkL, sI, sL]
  · rw [← c3, ← b1]; simp [stM, mkM, fgM, sI, sL]
  · have : (stM B off).2.1 MK 7 = M.2.1 MK 7 := by rw [← b8]; simp [stM, mkM, fgM, sI, sL]
    rw [this, c4, ← h1]; simp [stC, mkL, sI, sL]
  · simp [stM, stC, mkL, mkM, fgM, sI, sL]
  · simp [stM, stC, mkL, mkM, fgM, sI, sL]
  · rw [← c7, ← h1]; simp [stC, mkL, sI, sL]
  · rw [← c8, ← b2]; simp [stM, mkM, fgM, sI, sL]
  · have : (stM B off).1 MK 34 = M.1 MK 34 := by rw [← b3]; simp [stM, mkM, fgM, sI, sL]
    rw [this, ← c9, ← h1]; simp [stC, mkL, sI, sL]
  · have e : (stM B off).1 MK 35 = M.1 MK 35 + 1 := by rw [← b4]; simp [stM, mkM, fgM, sI, sL]
    rw [e, ← c10, ← h1]; simp [stC, mkL, sI, sL]
  · rw [← nI_1, ← c11, ← h1]; simp [stC, mkL, sI, sL]
  · rw [← nI_1, ← c12, ← b5]; simp [stM, mkM, fgM, sI, sL]
  · have e : (stM B off).1 MK 37 = M.1 MK 6 := by rw [← b1]; simp [stM, mkM, fgM, sI, sL]
    rw [e, c3, ← c2, ← h1]; simp [stC, mkL, sI, sL]
  · rw [← c3, ← b1]; simp [stM, mkM, fgM, sI, sL]
theorem RC_slew (rc : RC M u ld q) (hu : u ≤ 2097152) (hl : ld < 2 ^ 30) (h1 : A.1 TPK = M.1 TPK) (h2 : A.2.1 TPK = M.2.1 TPK) (hB : sCm M B) (off jit : Int64) (h26 : B.2.1 MK 26 = off) (h27 : B.2.1 MK 27 = jit) (hT1 : B.1 TPK = (slC A off jit).1 TPK) (hT2 : B.2.1 TPK = (slC A off jit).2.1 TPK) : ∃ q', RC (slM B) u (ld + 1) q' := by
  have hsu := snc_u rc hu hl h1 hB
  obtain ⟨⟨c1, c2, c3, c4, c5, c6⟩, ⟨c7, c8, c9, c10, c11, c12⟩, c13, c14, c15, c16⟩ := rc
  obtain ⟨⟨b1, b2, b3, b4, b5, b6⟩, b7, b8, b9, b10⟩ := hB
  have a5 : A.1 TPK 5 = nI q := by rw [h1]; exact c7
  have a6 : A.1 TPK 6 = M.1 MK 34 := by rw [h1]; exact c9
  have a3 : A.2.1 TPK 3 = M.2.1 MK 8 := by rw [h2]; exact c5
  have hr : cl2 (rtC (A.2.1 TPK 3) off (snc A) (A.1 TPK 5)) = cl3 (rtM (B.2.1 MK 8) (B.2.1 MK 26) (uM (B.1 MK 36) (B.1 MK 6 - B.1 MK 37)) (B.1 MK 33)) := by
    rw [cl_eq, a5, a3, h26, b9, b2, c8]
    rw [rt_eq _ _ _ _ q c16 hsu]
  obtain ⟨q', q4, q10, hq'⟩ := jn_q (c := M.1 MK 34) (b := if ab off < 4 * jit then 1 else 0) c15 c16
  refine ⟨q', ?_⟩
  unfold slM at *
  unfold slC at hT1 hT2
  rw [← hr, h26, h27] at *
  generalize cl2 (rtC (A.2.1 TPK 3) off (snc A) (A.1 TPK 5)) = R at *
  generalize rtM (B.2.1 MK 8) off (uM (B.1 MK 36) (B.1 MK 6 - B.1 MK 37)) (B.1 MK 33) = R2 at *
  generalize (if ab off < 4 * jit then (1 : Int32) else 0) = bb at *
  obtain ⟨g1, g2, g3⟩ := jg_c (X := mkL (sL (sL A TPK 3 R) TPK 4 off)) (b := bb)
  obtain ⟨k1, k2, k3⟩ := tr_m (X := sL (sL (sL B MK 8 R2) MK 8 R) MK 9 off) (b := bb) c16 (by show B.1 MK 33 = nI q; rw [b2, c8])
  have x6 : (mkL (sL (sL A TPK 3 R) TPK 4 off)).1 TPK 6 = M.1 MK 34 := by rw [← a6]; simp [mkL, sI, sL]
  have x5 : (mkL (sL (sL A TPK 3 R) TPK 4 off)).1 TPK 5 = nI q := by rw [← a5]; simp [mkL, sI, sL]
  have y34 : (sL (sL (sL B MK 8 R2) MK 8 R) MK 9 off).1 MK 34 = M.1 MK 34 := b3
  rw [x6, x5] at g1
  rw [y34] at k1
  rw [g1] at hT1
  rw [g2] at hT2
  generalize hJ : jn (M.1 MK 34) (nI q) bb = J at *
  have mi : (mkM (trM (sL (sL (sL B MK 8 R2) MK 8 R) MK 9 off) bb)).1 MK = up (up (up (up (B.1 MK) 34 J.1) 33 J.2) 37 (B.1 MK 6)) 36 (B.1 MK 36 + 1) := by
    unfold mkM
    rw [sI_c1, sI_c1, k1]
    funext i
    simp [up, sL]
  have ml : (mkM (trM (sL (sL (sL B MK 8 R2) MK 8 R) MK 9 off) bb)).2.1 MK = up (up (B.2.1 MK) 8 R) 9 off := by
    show (trM (sL (sL (sL B MK 8 R2) MK 8 R) MK 9 off) bb).2.1 MK = _
    rw [k2]
    funext i
    by_cases h9 : i = 9
    · subst h9; simp [up, sL]
    · by_cases h8 : i = 8
      · subst h8; simp [up, sL]
      · simp [up, sL, h8, h9]
  have e1 : (mkM (trM (sL (sL (sL B MK 8 R2) MK 8 R) MK 9 off) bb)).1 TPK = B.1 TPK := by
    have : (trM (sL (sL (sL B MK 8 R2) MK 8 R) MK 9 off) bb).1 TPK = B.1 TPK := k3 TPK (by decide)
    rw [← this]
    funext i
    simp [mkM, sI]
  have e2 : (mkM (trM (sL (sL (sL B MK 8 R2) MK 8 R) MK 9 off) bb)).2.1 TPK = B.2.1 TPK := by
    show (trM (sL (sL (sL B MK 8 R2) MK 8 R) MK 9 off) bb).2.1 TPK = _
    rw [k2]
    funext i
    simp [sL]
  have ti : B.1 TPK = up (up (up (up (M.1 TPK) 7 (M.1 TPK 1)) 8 (M.1 TPK 8 + 1)) 6 J.1) 5 J.2 := by
    rw [hT1]
    unfold mkL
    rw [sI_c1, sI_c1, ← h1]
    funext i
    simp [up, sL]
  have tl : B.2.1 TPK = up (up (M.2.1 TPK) 3 R) 4 off := by
    rw [hT2, ← h2]
    funext i
    by_cases h9 : i = 4
    · subst h9; simp [up, mkL, sI, sL]
    · by_cases h8 : i = 3
      · subst h8; simp [up, mkL, sI, sL]
      · simp [up, mkL, sI, sL, h8, h9]
  unfold RC
  rw [mi, ml, e1, e2, ti, tl]
  refine ⟨⟨?_, ?_, ?_, ?_, ?_, ?_⟩, ⟨?_, ?_, ?_, ?_, ?_, ?_⟩, fun h => by omega, fun _ => ⟨?_, u, Nat.le_refl _, ?_⟩, q4, q10⟩
  · simp [up]; exact c1.trans b7.symm
  · simp [up]; exact c2
  · simp [up]; exact b1.trans c3
  · simp [up]; exact b8.trans c4
  · simp [up]
  · simp [up]
  · simp [up]; exact hq'
  · simp [up]; exact hq'
  · simp [up]
  · simp [up]; exact c10.trans b4.symm
  · simp [up]; rw [c11, nI_1]
  · simp [up]; rw [b5, c12, nI_1]
  · simp [up]; rw [b1, c2, c3]
  · simp [up]; rw [b1, c3]
end RCL
