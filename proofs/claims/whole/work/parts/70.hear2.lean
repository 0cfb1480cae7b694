/-! hear, on both sides at once -/
def fMv (M : Mem) (p : Nat) : Int32 := ftM (M.1 MK 2) (M.1 (0, 21) 0) (M.1 (0, 21) 1) (rdN (M.1 (0, 21)) 40 8) (rdN (M.1 (0, 21)) 24 8) (rdN (M.1 (0, 21)) 32 8) (M.2.1 (0, 24) p) (M.2.1 (0, 23) p) (rdN (M.1 (0, 21)) 4 4 * 65536 / 2 + rdN (M.1 (0, 21)) 8 4 * 65536) (oNw (rdN (M.1 (0, 21)) 32 8) (rdN (M.1 (0, 21)) 40 8) (M.2.1 (0, 23) p) (M.2.1 MK 5))
theorem mE_f {B N : Mem} (h : mE B N) (p : Nat) : fMv N p = fMv B p := by
  unfold fMv
  rw [(h.1 21 (by decide) (by decide)).1, (h.1 24 (by decide) (by decide)).2, (h.1 23 (by decide) (by decide)).2, h.2.2, h.2.1 2 (by decide) (by decide)]
theorem min_ex {P : Nat → Prop} (n : Nat) : P n → ∃ k, P k ∧ ∀ i, i < k → ¬ P i := by
  induction n using Nat.strongRecOn with
  | ind n ih =>
    intro h
    by_cases q : ∃ i, i < n ∧ P i
    · obtain ⟨i, hi, hp⟩ := q
      exact ih i hi hp
    · exact ⟨n, h, fun i hi hp => q ⟨i, hi, hp⟩⟩
theorem mE_code {M N : Mem} (h : mE M N) {x : Int32} : mE M (sI N MK 0 x) := by
  refine ⟨fun i a b => ⟨?_, (h.1 i a b).2⟩, fun i a b => ?_, h.2.2⟩
  · rw [← (h.1 i a b).1]
    funext k
    simp [sI, show ¬ i = 20 by omega]
  · rw [← h.2.1 i a b]
    simp [sI, a]
theorem nlt_le {a b : Int32} (h : ¬ a < b) : b ≤ a := by
  rw [Int32.le_iff_toInt_le]
  rw [Int32.lt_iff_toInt_lt] at h
  omega
theorem lt_nle {a b : Int32} (h : a < b) : ¬ b ≤ a := by
  rw [Int32.le_iff_toInt_le]
  rw [Int32.lt_iff_toInt_lt] at h
  omega
/-- the class's keys but the peers', the clock's and the choice's, and the reference's -/
def kp (M N : Mem) : Prop := N.2.2 = M.2.2 ∧ ∀ i, (i < 5 ∨ 20 ≤ i) → N.1 (0, i) = M.1 (0, i) ∧ N.2.1 (0, i) = M.2.1 (0, i)
theorem kp.t {A B C : Mem} (h : kp A B) (k : kp B C) : kp A C := ⟨k.1.trans h.1, fun i a => ⟨(k.2 i a).1.trans (h.2 i a).1, (k.2 i a).2.trans (h.2 i a).2⟩⟩
theorem kp.mE {M N : Mem} (k : kp M N) {z : Int64} : mE M (sL N OK_ 0 z) := by
  refine ⟨fun i a b => ⟨(k.2 i (by omega)).1, ?_⟩, fun i a b => ?_, ?_⟩
  · rw [← (k.2 i (by omega)).2]
    funext x
    simp [sL, show ¬ i = 40 by omega]
  · exact congrFun (k.2 20 (by omega)).1 i
  · rw [← (k.2 20 (by omega)).2]
    funext x
    simp [sL]
theorem fin_rel {M A N : Mem} {t n0 m u : Nat} (hM : M.2.2.1 = rf) (hx : M.2.2.2 = 79) (rt : RT M n0 m) (hu : u ≤ 4096 * t) (k : kp M A) (hN : N.2.2 = M.2.2) (hc : ∀ i, i < 20 → N.1 (0, i) = A.1 (0, i) ∧ N.2.1 (0, i) = A.2.1 (0, i)) (h21 : N.1 (0, 21) = M.1 (0, 21)) (h22 : N.1 (0, 22) = M.1 (0, 22)) (h2 : N.1 MK 2 = M.1 MK 2) (h4 : N.1 MK 4 = M.1 MK 4) (hC : ∃ ld q, ld ≤ t + 1 ∧ RC N u ld q) (hP : ∃ cn : Nat → Nat, ∀ q, q < 8 → R1 N u q (cn q)) (hX : RX N) : Rel N (t + 1) := by
  obtain ⟨ld, q, h5, h6⟩ := hC
  obtain ⟨cn, hP⟩ := hP
  have e := fun i (h : i < 5) => (hc i (by omega)).1.trans (k.2 i (Or.inl h)).1
  exact ⟨⟨by rw [hN]; exact hM, by rw [hN]; exact hx⟩, ⟨n0, m, RT_c ⟨by rw [e 1 (by decide)], h2, by rw [e 3 (by decide)], h4, e 2 (by decide), h21, e 4 (by decide), h22⟩ rt⟩, ⟨u, ld, q, ⟨by omega, h5⟩, h6, cn, hP⟩, hX⟩
theorem R1_cm2 {A B N : Mem} (hc : ∀ q j, N.1 (q + 1, j) = A.1 (q + 1, j) ∧ N.2.1 (q + 1, j) = A.2.1 (q + 1, j)) (hm : ∀ j, 23 ≤ j → j ≤ 34 → N.1 (0, j) = B.1 (0, j) ∧ N.2.1 (0, j) = B.2.1 (0, j)) {u p c : Nat} (r : R1 (mix A B) u p c) : R1 N u p c :=
  R1_c (M := mix A B) (N := N) ⟨fun q j => hc q j, fun j a b => hm j a b⟩ (Nat.le_refl _) r
theorem RX_y {M N : Mem} {a b e st : Int32} {lo hi off cj : Int64} {f : Nat → Int32} {g : Nat → Int64} (hs : ∃ s, s ≤ 16 ∧ st = nI s) (f1 : N.1 CHK = up (up (up (up (up (up (up (M.1 CHK) 1 a) 2 0) 3 0) 2 b) 3 e) 7 st) 4 1) (f2 : N.2.1 CHK = up (up (up (up (M.2.1 CHK) 8 lo) 9 hi) 5 off) 6 cj) (g1 : ∀ j, 22 ≤ j → j ≤ 28 → N.1 MK j = upI f a b e st j) (g2 : ∀ j, 26 ≤ j → j ≤ 30 → N.2.1 MK j = upL g lo hi off cj j) : RX N := by
  obtain ⟨s, h16, hs⟩ := hs
  unfold RX
  rw [f1, f2, g1 22 (by decide) (by decide), g1 23 (by decide) (by decide), g1 24 (by decide) (by decide), g1 25 (by decide) (by decide), g1 28 (by decide) (by decide), g2 26 (by decide) (by decide), g2 27 (by decide) (by decide), g2 29 (by decide) (by decide), g2 30 (by decide) (by decide)]
  exact ⟨⟨rfl, rfl, rfl, rfl⟩, ⟨s, h16, hs, hs⟩, rfl, rfl, rfl, rfl⟩
theorem RX_n {M N : Mem} (rx : RX M) {a : Int32} (f1 : N.1 CHK = up (up (up (M.1 CHK) 1 a) 2 0) 3 0) (f2 : N.2.1 CHK = M.2.1 CHK) (g22 : N.1 MK 22 = a) (g23 : N.1 MK 23 = 0) (g24 : N.1 MK 24 = 0) (g25 : N.1 MK 25 = M.1 MK 25) (g28 : N.1 MK 28 = M.1 MK 28) (g : ∀ j, 26 ≤ j → j ≤ 30 → N.2.1 MK j = M.2.1 MK j) : RX N := by
  obtain ⟨⟨x1, x2, x3, x4⟩, x5, x6, x7, x8, x9⟩ := rx
  unfold RX
  rw [f1, f2, g22, g23, g24, g25, g28, g 26 (by decide) (by decide), g 27 (by decide) (by decide), g 29 (by decide) (by decide), g 30 (by decide) (by decide)]
  exact ⟨⟨rfl, rfl, rfl, x4⟩, x5, x6, x7, x8, x9⟩
section HE2
variable {G : GG} {l : Launch}
theorem hear_mo {M N : Mem} {j c : Nat} (hN : N.2.2.1 = rf) (hE : mE M N) (hj : j < 8) (hc : c ≤ 8) (hC : M.1 (0, 29) j = nI c) (f0 : fMv M j = 0) :
    (¬ (tkM M j c).1 (0, 30) j < (tkM M j c).1 (0, 34) (mOk (tkM M j c) j (tk_c c) 0) → PM G l m_MO_hear [vR (some MK), vI (nI j)] N (rI 0) (tkM (sI N MK 0 0) j c) 0 0) ∧ ((tkM M j c).1 (0, 30) j < (tkM M j c).1 (0, 34) (mOk (tkM M j c) j (tk_c c) 0) → ∀ M3, PM G l m_MO_update [vR (some MK)] (sI (tkM (sI N MK 0 0) j c) (0, 30) j ((tkM M j c).1 (0, 34) (mOk (tkM M j c) j (tk_c c) 0))) rV M3 0 0 → PM G l m_MO_hear [vR (some MK), vI (nI j)] N (rI 0) M3 0 0) := by
  have h0 : mE M (sI N MK 0 0) := mE_code hE
  have h1 := mE_tk h0 j c
  have hf : PM G l m_MO_failed [vR (some MK), vI (nI j)] (sI N MK 0 0) (rI (fMv (sI N MK 0 0) j)) (sI N MK 0 0) 0 0 := mo_failed (M := sI N MK 0 0) hN j hj
  rw [mE_f h0, f0] at hf
  have ht := mo_take (G := G) (l := l) (M := sI N MK 0 0) hN j c hj hc (by rw [(h0.1 29 (by decide) (by decide)).1]; exact hC)
  have hc1 : (tkM (sI N MK 0 0) j c).1 (0, 29) j = nI (tk_c c) := tkM_i.1.trans (by rw [c8_k])
  have e1 : (tkM (sI N MK 0 0) j c).1 (0, 34) (mOk (tkM (sI N MK 0 0) j c) j (tk_c c) 0) = (tkM M j c).1 (0, 34) (mOk (tkM M j c) j (tk_c c) 0) := by rw [mE_Ok h1, (h1.1 34 (by decide) (by decide)).1]
  have e2 : (tkM (sI N MK 0 0) j c).1 (0, 30) j = (tkM M j c).1 (0, 30) j := by rw [(h1.1 30 (by decide) (by decide)).1]
  have hrf : (tkM (sI N MK 0 0) j c).2.2.1 = rf := hN
  constructor
  · intro hv
    exact mo_hear_0 j (tk_c c) hj tk_k8 tk_k0 hf _ ht hrf hc1 (by rw [e1, e2]; exact nlt_le hv)
  · intro hv M3 hu
    exact mo_hear_u j (tk_c c) hj tk_k8 tk_k0 hf _ ht hrf hc1 (by rw [e1, e2]; exact lt_nle hv) M3 (by rw [e1]; exact hu)
/-- what the law then says of a hear that was not refused -/
theorem hear_sim {M A N : Mem} {t : Nat} {j : Nat} (h1 : PM G l m_TK_hear [vR (some TKK), vI (nI j)] M (rI 0) A 0 0) (h2 : PM G l m_MO_hear [vR (some MK), vI (nI j)] (sL A OK_ 0 (0 : Int32).toInt64) (rI 0) N 0 0) (h0 : N.1 MK 0 = 0) (ho : N.2.1 OK_ 0 = (0 : Int32).toInt64) (r : Rel N (t + 1)) : SimI G l t M m_LW_hear [vR (some TKK), vI (nI j), vR (some OK_)] m_MO_hear [vR (some MK), vI (nI j)] :=
  ⟨0, 0, _, N, 0, 0, lw_hear _ 0 h1, h2, h0, fun _ => ho, r, by omega, by omega⟩
end HE2
