/-! bits: both sides' ways -/
theorem sh8 : ∀ s, s < 8 → ((nI (8 * s)).toInt64 &&& 63) = lN (8 * s) ∧ ((nI (8 * s)).toInt64.toUInt64 &&& Int64.toUInt64 63) = UInt64.ofNat (8 * s) := by decide +kernel
/-- a byte of a long, by either shift -/
theorem by_eq (v : Int64) (s : Nat) (hs : s < 8) : byU v s = byS v s := by
  unfold byU byS
  rw [(sh8 s hs).1, (sh8 s hs).2]
  apply Int32.toBitVec_inj.mp
  apply BitVec.eq_of_getLsbD_eq
  intro i hi
  rw [Int32.toBitVec_and, Int64.toBitVec_toInt32, Int64.toBitVec_toInt32, Int64.toBitVec_and]
  rw [BitVec.signExtend_eq_setWidth_of_le _ (by decide), BitVec.signExtend_eq_setWidth_of_le _ (by decide), BitVec.getLsbD_and, BitVec.getLsbD_setWidth, BitVec.getLsbD_setWidth, BitVec.getLsbD_and]
  have e1 : ((v.toUInt64 >>> UInt64.ofNat (8 * s)).toInt64).toBitVec = v.toBitVec >>> (8 * s) := by
    show (v.toUInt64 >>> UInt64.ofNat (8 * s)).toBitVec = _
    rw [UInt64.toBitVec_shiftRight]
    show v.toBitVec >>> ((BitVec.ofNat 64 (8 * s)) % 64) = _
    rw [BitVec.ushiftRight_eq' , show ((BitVec.ofNat 64 (8 * s)) % 64).toNat = 8 * s from by rw [BitVec.toNat_umod, BitVec.toNat_ofNat]; simp; omega]
  have e2 : (v >>> lN (8 * s)).toBitVec = v.toBitVec.sshiftRight (8 * s) := by
    rw [Int64.toBitVec_shiftRight]
    have : ((lN (8 * s)).toBitVec.smod 64) = BitVec.ofNat 64 (8 * s) := by
      have : ∀ s, s < 8 → ((lN (8 * s)).toBitVec.smod 64) = BitVec.ofNat 64 (8 * s) := by decide +kernel
      exact this s hs
    rw [this, BitVec.sshiftRight_eq', show (BitVec.ofNat 64 (8 * s)).toNat = 8 * s from by rw [BitVec.toNat_ofNat]; omega]
  rw [e1, e2, BitVec.getLsbD_ushiftRight, BitVec.getLsbD_sshiftRight]
  have m1 : (255 : Int32).toBitVec.getLsbD i = decide (i < 8) := by
    have : ∀ i, i < 32 → (255 : Int32).toBitVec.getLsbD i = decide (i < 8) := by decide +kernel
    exact this i hi
  have m2 : (255 : Int64).toBitVec.getLsbD i = decide (i < 8) := by
    have : ∀ i, i < 32 → (255 : Int64).toBitVec.getLsbD i = decide (i < 8) := by decide +kernel
    exact this i hi
  rw [m1, m2]
  by_cases h8 : i < 8
  · have : 8 * s + i < 64 := by omega
    simp [h8, hi, show ¬ 64 ≤ i by omega, this, show i < 64 by omega]
  · simp [h8]
theorem wr_eq (f g : Nat → Int32) (from_ n : Nat) (v : Int64) (i : Nat) (hn : n ≤ 8) (hi : i ≤ n) (h : f = g) : (fun j => if from_ ≤ j ∧ j < from_ + i then byU v (n - 1 - (j - from_)) else f j) = (fun j => if from_ ≤ j ∧ j < from_ + i then byS v (n - 1 - (j - from_)) else g j) := by
  funext j
  by_cases c : from_ ≤ j ∧ j < from_ + i
  · rw [if_pos c, if_pos c, by_eq v _ (by omega)]
  · rw [if_neg c, if_neg c, h]
/-- bytes -/
theorem b_ver : ∀ b, b < 256 → (nI b >>> ((3 : Int32) &&& 31) &&& 7) = nI (b / 8 % 8) ∧ vrM (nI b) = nI (b / 8 % 8) ∧ (nI b &&& 7) = nI (b % 8) ∧ mdM (nI b) = nI (b % 8) ∧ (nI b >>> ((6 : Int32) &&& 31)) = nI (b / 64) ∧ nI b / 64 = nI (b / 64) := by decide +kernel
theorem byteN {x : Int32} (h : byteOK x) : ∃ b, b < 256 ∧ x = nI b := by
  refine ⟨x.toInt.toNat, by have := h.2; omega, ?_⟩
  apply Int32.toInt_inj.mp
  rw [nI_toInt (by have := h.2; omega), Int.toNat_of_nonneg h.1]
theorem r_shl : ∀ r, r < 256 → (nI r <<< ((1 : Int32) &&& 31) &&& 255) = nI (2 * r % 256) ∧ 2 * nI r - 2 * nI r / 256 * 256 = nI (2 * r % 256) := by decide +kernel
theorem r_or : ∀ r, r < 256 → nI r ||| 1 = nI (r / 2 * 2 + 1) ∧ nI r / 2 * 2 + 1 = nI (r / 2 * 2 + 1) := by decide +kernel
/-- a number of bytes -/
theorem rd_b {f : Nat → Int32} (hf : ∀ j, byteOK (f j)) (a : Nat) : ∀ n, n ≤ 7 → ∃ m : Nat, m < 2 ^ (8 * n) ∧ rdN f a n = lN m
  | 0, _ => ⟨0, by decide, rfl⟩
  | n + 1, hn => by
    obtain ⟨m, hm, e⟩ := rd_b hf a n (by omega)
    obtain ⟨b, hb, eb⟩ := byteN (hf (a + n))
    refine ⟨256 * m + b, ?_, ?_⟩
    · have : 2 ^ (8 * (n + 1)) = 2 ^ (8 * n) * 256 := by rw [show 8 * (n + 1) = 8 * n + 8 by omega, Nat.pow_add]
      omega
    · rw [rdN, e, eb, nI_l (by omega), show (256 : Int64) = lN 256 from rfl, lN_mul, lN_add]
