/-! how the two sides' memories stand to each other -/
def RT (M : Mem) (n m : Nat) : Prop := n ≤ 64 ∧ m ≤ 48 ∧ M.1 (0, 1) 1 = nI n ∧ M.1 MK 2 = nI n ∧ M.1 (0, 3) 1 = nI m ∧ M.1 MK 4 = nI m ∧ M.1 (0, 2) = M.1 (0, 21) ∧ (∀ j, byteOK (M.1 (0, 2) j)) ∧ M.1 (0, 4) = M.1 (0, 22) ∧ ∀ j, byteOK (M.1 (0, 4) j)
def RC (M : Mem) (u ld q : Nat) : Prop := (M.2.1 TPK 0 = M.2.1 MK 5 ∧ M.1 TPK 1 = nI u ∧ M.1 MK 6 = nI u ∧ M.2.1 MK 7 = (M.1 TPK 2).toInt64 ∧ M.2.1 TPK 3 = M.2.1 MK 8 ∧ M.2.1 TPK 4 = M.2.1 MK 9) ∧ (M.1 TPK 5 = nI q ∧ M.1 MK 33 = nI q ∧ M.1 TPK 6 = M.1 MK 34 ∧ M.1 TPK 9 = M.1 MK 35 ∧ M.1 TPK 8 = nI ld ∧ M.1 MK 36 = nI ld) ∧ (ld = 0 → M.1 TPK 7 = -1) ∧ (0 < ld → M.1 TPK 7 = M.1 MK 37 ∧ ∃ a, a ≤ u ∧ M.1 MK 37 = nI a) ∧ 4 ≤ q ∧ q ≤ 10
/-- one sample: the class's number i -/
def RS (M : Mem) (u p c i : Nat) : Prop := (M.2.1 (p + 1, 1) i = M.2.1 (0, 31) (8 * p + (c - 1 - i)) ∧ M.2.1 (p + 1, 2) i = M.2.1 (0, 32) (8 * p + (c - 1 - i)) ∧ M.2.1 (p + 1, 3) i = M.2.1 (0, 33) (8 * p + (c - 1 - i)) ∧ M.1 (p + 1, 4) i = M.1 (0, 34) (8 * p + (c - 1 - i))) ∧ oB (M.2.1 (p + 1, 1) i) ∧ (16384 ≤ (M.2.1 (p + 1, 2) i).toInt ∧ (M.2.1 (p + 1, 2) i).toInt ≤ 68719476736) ∧ (0 ≤ (M.2.1 (p + 1, 3) i).toInt ∧ (M.2.1 (p + 1, 3) i).toInt ≤ 2097152) ∧ ∃ a, a ≤ u ∧ M.1 (p + 1, 4) i = nI a
/-- one peer -/
def R1 (M : Mem) (u p c : Nat) : Prop := (c ≤ 8 ∧ M.1 (PEK p) 6 = nI c ∧ M.1 (0, 29) p = nI c) ∧ (M.2.1 (PEK p) 0 = M.2.1 (0, 23) p ∧ M.2.1 (PEK p) 1 = M.2.1 (0, 24) p ∧ M.2.1 (PEK p) 4 = M.2.1 (0, 27) p ∧ M.2.1 (PEK p) 5 = M.2.1 (0, 28) p ∧ M.1 (PEK p) 13 = M.1 (0, 30) p) ∧ (∃ r, r < 256 ∧ M.1 (PEK p) 2 = nI r ∧ M.1 (0, 25) p = nI r) ∧ (∃ s, s ≤ 15 ∧ M.1 (PEK p) 3 = nI s ∧ M.1 (0, 26) p = nI s) ∧ ((0 ≤ (M.2.1 (0, 27) p).toInt ∧ (M.2.1 (0, 27) p).toInt < 281474976710656) ∧ 0 ≤ (M.2.1 (0, 28) p).toInt ∧ (M.2.1 (0, 28) p).toInt < 281474976710656) ∧ (∀ i, i < c → RS M u p c i) ∧ (∀ pl, pl < c → M.1 (p + 1, 5) pl = nI (c - 1 - odK (mdl M p) c pl)) ∧ (0 < c → M.2.1 (PEK p) 7 = mJi M p c)
def RX (M : Mem) : Prop := (M.1 CHK 1 = M.1 MK 22 ∧ M.1 CHK 2 = M.1 MK 23 ∧ M.1 CHK 3 = M.1 MK 24 ∧ M.1 CHK 4 = M.1 MK 25) ∧ (∃ s, s ≤ 16 ∧ M.1 CHK 7 = nI s ∧ M.1 MK 28 = nI s) ∧ M.2.1 CHK 5 = M.2.1 MK 26 ∧ M.2.1 CHK 6 = M.2.1 MK 27 ∧ M.2.1 CHK 8 = M.2.1 MK 29 ∧ M.2.1 CHK 9 = M.2.1 MK 30
def Rel (M : Mem) (t : Nat) : Prop := (M.2.2.1 = rf ∧ M.2.2.2 = 79) ∧ (∃ n m, RT M n m) ∧ (∃ u ld q, (u ≤ 4096 * t ∧ ld ≤ t) ∧ RC M u ld q ∧ ∃ cn : Nat → Nat, ∀ p, p < 8 → R1 M u p (cn p)) ∧ RX M
/-! what each depends on -/
def sT (M N : Mem) : Prop := N.1 (0, 1) 1 = M.1 (0, 1) 1 ∧ N.1 MK 2 = M.1 MK 2 ∧ N.1 (0, 3) 1 = M.1 (0, 3) 1 ∧ N.1 MK 4 = M.1 MK 4 ∧ N.1 (0, 2) = M.1 (0, 2) ∧ N.1 (0, 21) = M.1 (0, 21) ∧ N.1 (0, 4) = M.1 (0, 4) ∧ N.1 (0, 22) = M.1 (0, 22)
def sC (M N : Mem) : Prop := (N.1 TPK = M.1 TPK ∧ N.2.1 TPK = M.2.1 TPK) ∧ (N.1 MK 6 = M.1 MK 6 ∧ N.1 MK 33 = M.1 MK 33 ∧ N.1 MK 34 = M.1 MK 34 ∧ N.1 MK 35 = M.1 MK 35 ∧ N.1 MK 36 = M.1 MK 36 ∧ N.1 MK 37 = M.1 MK 37) ∧ N.2.1 MK 5 = M.2.1 MK 5 ∧ N.2.1 MK 7 = M.2.1 MK 7 ∧ N.2.1 MK 8 = M.2.1 MK 8 ∧ N.2.1 MK 9 = M.2.1 MK 9
def sP (M N : Mem) : Prop := (∀ p j, N.1 (p + 1, j) = M.1 (p + 1, j) ∧ N.2.1 (p + 1, j) = M.2.1 (p + 1, j)) ∧ ∀ j, 23 ≤ j → j ≤ 34 → N.1 (0, j) = M.1 (0, j) ∧ N.2.1 (0, j) = M.2.1 (0, j)
def sX (M N : Mem) : Prop := (N.1 CHK = M.1 CHK ∧ N.2.1 CHK = M.2.1 CHK) ∧ (N.1 MK 22 = M.1 MK 22 ∧ N.1 MK 23 = M.1 MK 23 ∧ N.1 MK 24 = M.1 MK 24 ∧ N.1 MK 25 = M.1 MK 25 ∧ N.1 MK 28 = M.1 MK 28) ∧ N.2.1 MK 26 = M.2.1 MK 26 ∧ N.2.1 MK 27 = M.2.1 MK 27 ∧ N.2.1 MK 29 = M.2.1 MK 29 ∧ N.2.1 MK 30 = M.2.1 MK 30
theorem RT_c {M N : Mem} {n m : Nat} (h : sT M N) (r : RT M n m) : RT N n m := by
  obtain ⟨h1, h2, h3, h4, h5, h6, h7, h8⟩ := h
  unfold RT
  rw [h1, h2, h3, h4, h5, h6, h7, h8]
  exact r
theorem RC_c {M N : Mem} {u ld q : Nat} (h : sC M N) (r : RC M u ld q) : RC N u ld q := by
  obtain ⟨⟨h1, h2⟩, ⟨h3, h4, h5, h6, h7, h8⟩, h9, h10, h11, h12⟩ := h
  unfold RC
  rw [h1, h2, h3, h4, h5, h6, h7, h8, h9, h10, h11, h12]
  exact r
theorem mJi_c {M N : Mem} (h1 : N.2.1 (0, 31) = M.2.1 (0, 31)) (h2 : N.2.1 (0, 32) = M.2.1 (0, 32)) (p c : Nat) : mJi N p c = mJi M p c ∧ mdl N p = mdl M p := by
  have e : mdl N p = mdl M p := by
    funext i
    show N.2.1 (0, 32) _ = M.2.1 (0, 32) _
    rw [h2]
  refine ⟨?_, e⟩
  unfold mJi mJs mOf mOk
  rw [e, h1]
theorem R1_c {M N : Mem} {u u' p c : Nat} (h : sP M N) (hu : u ≤ u') (r : R1 M u p c) : R1 N u' p c := by
  obtain ⟨hc, hm⟩ := h
  have k := fun j (a : 23 ≤ j) (b : j ≤ 34) => hm j a b
  obtain ⟨e1, e2⟩ := mJi_c (M := M) (N := N) (k 31 (by decide) (by decide)).2 (k 32 (by decide) (by decide)).2 p c
  unfold R1 RS at *
  rw [e1, e2, (hc p 0).1, (hc p 0).2, (hc p 1).2, (hc p 2).2, (hc p 3).2, (hc p 4).1, (hc p 5).1, (k 29 (by decide) (by decide)).1, (k 23 (by decide) (by decide)).2, (k 24 (by decide) (by decide)).2, (k 27 (by decide) (by decide)).2, (k 28 (by decide) (by decide)).2, (k 30 (by decide) (by decide)).1, (k 25 (by decide) (by decide)).1, (k 26 (by decide) (by decide)).1, (k 31 (by decide) (by decide)).2, (k 32 (by decide) (by decide)).2, (k 33 (by decide) (by decide)).2, (k 34 (by decide) (by decide)).1]
  obtain ⟨r1, r2, r3, r4, r5, r6, r7, r8⟩ := r
  refine ⟨r1, r2, r3, r4, r5, fun i hi => ?_, r7, r8⟩
  obtain ⟨s1, s2, s3, s4, a, ha, e⟩ := r6 i hi
  exact ⟨s1, s2, s3, s4, a, by omega, e⟩
theorem RX_c {M N : Mem} (h : sX M N) (r : RX M) : RX N := by
  obtain ⟨⟨h1, h2⟩, ⟨h3, h4, h5, h6, h7⟩, h8, h9, h10, h11⟩ := h
  unfold RX
  rw [h1, h2, h3, h4, h5, h6, h7, h8, h9, h10, h11]
  exact r
theorem Rel_c {M N : Mem} {t t' : Nat} (ht : t ≤ t') (hr : N.2.2 = M.2.2) (hT : sT M N) (hC : sC M N) (hP : sP M N) (hX : sX M N) (r : Rel M t) : Rel N t' := by
  obtain ⟨⟨r1, r2⟩, ⟨n, m, r3⟩, ⟨u, ld, q, ⟨a1, a2⟩, r4, cn, r5⟩, r6⟩ := r
  exact ⟨⟨by rw [hr]; exact r1, by rw [hr]; exact r2⟩, ⟨n, m, RT_c hT r3⟩, ⟨u, ld, q, ⟨by omega, by omega⟩, RC_c hC r4, cn, fun p hp => R1_c hP (Nat.le_refl _) (r5 p hp)⟩, RX_c hX r6⟩
/-- the reference's note of a refusal, and the law's own cell, are in no relation -/
def sN (M N : Mem) : Prop := N.2.2 = M.2.2 ∧ (∀ k, k ≠ MK → k ≠ OK_ → N.1 k = M.1 k ∧ N.2.1 k = M.2.1 k) ∧ (∀ j, j ≠ 0 → N.1 MK j = M.1 MK j) ∧ N.2.1 MK = M.2.1 MK
theorem sN.all {M N : Mem} (h : sN M N) : sT M N ∧ sC M N ∧ sP M N ∧ sX M N := by
  obtain ⟨_, h1, h2, h3⟩ := h
  refine ⟨⟨?_, ?_, ?_, ?_, ?_, ?_, ?_, ?_⟩, ⟨⟨?_, ?_⟩, ⟨?_, ?_, ?_, ?_, ?_, ?_⟩, ?_, ?_, ?_, ?_⟩, ⟨fun p j => ?_, fun j a b => ?_⟩, ⟨⟨?_, ?_⟩, ⟨?_, ?_, ?_, ?_, ?_⟩, ?_, ?_, ?_, ?_⟩⟩
  · rw [(h1 (0, 1) (by decide) (by decide)).1]
  · exact h2 2 (by decide)
  · rw [(h1 (0, 3) (by decide) (by decide)).1]
  · exact h2 4 (by decide)
  · exact (h1 (0, 2) (by decide) (by decide)).1
  · exact (h1 (0, 21) (by decide) (by decide)).1
  · exact (h1 (0, 4) (by decide) (by decide)).1
  · exact (h1 (0, 22) (by decide) (by decide)).1
  · exact (h1 TPK (by decide) (by decide)).1
  · exact (h1 TPK (by decide) (by decide)).2
  · exact h2 6 (by decide)
  · exact h2 33 (by decide)
  · exact h2 34 (by decide)
  · exact h2 35 (by decide)
  · exact h2 36 (by decide)
  · exact h2 37 (by decide)
  · rw [h3]
  · rw [h3]
  · rw [h3]
  · rw [h3]
  · exact h1 (p + 1, j) (fun e => by simp at e) (fun e => by simp at e)
  · exact h1 (0, j) (fun e => by simp at e; omega) (fun e => by simp at e; omega)
  · exact (h1 CHK (by decide) (by decide)).1
  · exact (h1 CHK (by decide) (by decide)).2
  · exact h2 22 (by decide)
  · exact h2 23 (by decide)
  · exact h2 24 (by decide)
  · exact h2 25 (by decide)
  · exact h2 28 (by decide)
  · rw [h3]
  · rw [h3]
  · rw [h3]
  · rw [h3]
theorem sN.rel {M N : Mem} {t t' : Nat} (ht : t ≤ t') (h : sN M N) (r : Rel M t) : Rel N t' := by
  obtain ⟨a, b, c, d⟩ := h.all
  exact Rel_c ht h.1 a b c d r
theorem sN_r {M : Mem} : sN M M := ⟨rfl, fun _ _ _ => ⟨rfl, rfl⟩, fun _ _ => rfl, rfl⟩
theorem sN_t {M N K : Mem} (a : sN M N) (b : sN N K) : sN M K := ⟨b.1.trans a.1, fun k h1 h2 => ⟨(b.2.1 k h1 h2).1.trans (a.2.1 k h1 h2).1, (b.2.1 k h1 h2).2.trans (a.2.1 k h1 h2).2⟩, fun j h => (b.2.2.1 j h).trans (a.2.2.1 j h), b.2.2.2.trans a.2.2.2⟩
theorem sN_code {M : Mem} {x : Int32} : sN M (sI M MK 0 x) := ⟨rfl, fun k h1 _ => ⟨by funext i; simp [sI, h1], rfl⟩, fun j hj => by simp [sI, hj], rfl⟩
theorem sN_out {M : Mem} {x : Int64} : sN M (sL M OK_ 0 x) := ⟨rfl, fun k _ h2 => ⟨rfl, by funext i; simp [sL, h2]⟩, fun _ _ => rfl, by funext i; simp [sL]⟩
/-! what the law asks of a pair of calls -/
def SimI (G : GG) (l : Launch) (t : Nat) (M : Mem) (hm : MI) (ha : List PV) (mm : MI) (ma_ : List PV) : Prop := ∃ (k b : Int32) (M1 M2 : Mem) (c s : Nat), PM G l hm ha M (rI k) M1 c s ∧ PM G l mm ma_ M1 (rI b) M2 0 0 ∧ M2.1 MK 0 = k ∧ (k = 0 → M2.2.1 OK_ 0 = b.toInt64) ∧ Rel M2 (t + 1) ∧ c ≤ 1 ∧ s ≤ 6
def SimL (G : GG) (l : Launch) (t : Nat) (M : Mem) (hm : MI) (ha : List PV) (mm : MI) (ma_ : List PV) : Prop := ∃ (k : Int32) (b : Int64) (M1 M2 : Mem) (c s : Nat), PM G l hm ha M (rI k) M1 c s ∧ PM G l mm ma_ M1 (rL b) M2 0 0 ∧ M2.1 MK 0 = k ∧ (k = 0 → M2.2.1 OK_ 0 = b) ∧ Rel M2 (t + 1) ∧ c ≤ 1 ∧ s ≤ 6
def SimV (G : GG) (l : Launch) (t : Nat) (M : Mem) (hm : MI) (ha : List PV) (mm : MI) (ma_ : List PV) : Prop := ∃ (k : Int32) (M1 M2 : Mem) (c s : Nat), PM G l hm ha M (rI k) M1 c s ∧ PM G l mm ma_ M1 rV M2 0 0 ∧ M2.1 MK 0 = k ∧ Rel M2 (t + 1) ∧ c ≤ 1 ∧ s ≤ 6
theorem and255 (x : Int32) : byteOK (x &&& 255) := by
  have e := pk_and x (m := 255) 8 (by decide)
  rw [e]
  unfold byteOK
  rw [nI_toInt (by omega)]
  omega
theorem byteI : ∀ b, b < 256 → byteOK (nI b) := fun b hb => by
  unfold byteOK
  rw [nI_toInt (by omega)]
  omega
