/-! THE LAW: its loop -/
abbrev gs (G : GG) (t : Nat) (k : Int32) : Int32 := G.2.2.2.2 (nI (13 * t) + k).toNatClampNeg
abbrev gw (G : GG) (t : Nat) (k j : Int32) : Int64 := (gs G t k).toInt64 <<< ((32 : Int32).toInt64 &&& 63) ||| ((gs G t j).toInt64 &&& 4294967295)
section LAW
variable {G : GG} {l : Launch} {M : Mem} {t n : Nat}
theorem lc_type (r : Rel M t) (ht : t ≤ 512) (hin : ∀ k, k ≤ 12 → vp_in (nI (13 * t) + nI k) G.2.2.2.1) (hN : ∀ M2 x5 x6 x7, Rel M2 (t + 1) → ∃ M', PW G l m_LW_law 1190 [some (vR (some SK)), some (vR (some TKK)), some (vR (some MK)), some (vR (some OK_)), some (vI (nI (13 * t))), x5, x6, x7] [] M2 (rI 1) M' n (6 * n)) (x5 x6 x7 : Option PV) : ∃ M', PW G l m_LW_law 128 [some (vR (some SK)), some (vR (some TKK)), some (vR (some MK)), some (vR (some OK_)), some (vI (nI (13 * t))), x5, x6, x7] [] M (rI 1) M' (n + 1) (6 * (n + 1)) := by
  obtain ⟨k, b, M1, M2, c, s, p1, p2, e0, eO, r2, hc, hs⟩ := sim_type (G := G) (l := l) r (gw G t 1 2) (gs G t 3)
  obtain ⟨M', hN'⟩ := hN M2 (some (vI k)) (some (vI b)) x7 r2
  refine ⟨M', pw_mono (mc := c + n) (ms := s + 6 * n) (by omega) (by omega) ?_⟩
  refine pw_aload_n d_LW_law_128 rfl ?_
  refine pw_aload_n d_LW_law_129 rfl ?_
  refine pw_iload d_LW_law_130 rfl ?_
  refine pw_iconst 1 d_LW_law_132 (by decide) ?_
  refine pw_iadd d_LW_law_133 ?_
  refine pw_sload d_LW_law_134 (hin 1 (by omega)) ?_
  refine pw_i2l d_LW_law_135 ?_
  refine pw_bipush (32) d_LW_law_136 (by decide) ?_
  refine pw_lshl d_LW_law_138 ?_
  refine pw_aload_n d_LW_law_139 rfl ?_
  refine pw_iload d_LW_law_140 rfl ?_
  refine pw_iconst 2 d_LW_law_142 (by decide) ?_
  refine pw_iadd d_LW_law_143 ?_
  refine pw_sload d_LW_law_144 (hin 2 (by omega)) ?_
  refine pw_i2l d_LW_law_145 ?_
  refine pw_ldc2 (4294967295) d_LW_law_146 g1103 ?_
  refine pw_land d_LW_law_149 ?_
  refine pw_lor d_LW_law_150 ?_
  refine pw_aload_n d_LW_law_151 rfl ?_
  refine pw_iload d_LW_law_152 rfl ?_
  refine pw_iconst 3 d_LW_law_154 (by decide) ?_
  refine pw_iadd d_LW_law_155 ?_
  refine pw_sload d_LW_law_156 (hin 3 (by omega)) ?_
  refine pw_aload_n d_LW_law_157 rfl ?_
  refine cg_LW_law_158 (Nat.le_of_ble_eq_true rfl) p1 ?_
  refine pw_istore d_LW_law_161 (by decide) ?_
  dsimp only [stL, kil, isL, cat]
  refine pw_aload_n d_LW_law_163 rfl ?_
  refine pw_aload_n d_LW_law_164 rfl ?_
  refine pw_iload d_LW_law_165 rfl ?_
  refine pw_iconst 1 d_LW_law_167 (by decide) ?_
  refine pw_iadd d_LW_law_168 ?_
  refine pw_sload d_LW_law_169 (hin 1 (by omega)) ?_
  refine pw_i2l d_LW_law_170 ?_
  refine pw_bipush (32) d_LW_law_171 (by decide) ?_
  refine pw_lshl d_LW_law_173 ?_
  refine pw_aload_n d_LW_law_174 rfl ?_
  refine pw_iload d_LW_law_175 rfl ?_
  refine pw_iconst 2 d_LW_law_177 (by decide) ?_
  refine pw_iadd d_LW_law_178 ?_
  refine pw_sload d_LW_law_179 (hin 2 (by omega)) ?_
  refine pw_i2l d_LW_law_180 ?_
  refine pw_ldc2 (4294967295) d_LW_law_181 g1103 ?_
  refine pw_land d_LW_law_184 ?_
  refine pw_lor d_LW_law_185 ?_
  refine pw_aload_n d_LW_law_186 rfl ?_
  refine pw_iload d_LW_law_187 rfl ?_
  refine pw_iconst 3 d_LW_law_189 (by decide) ?_
  refine pw_iadd d_LW_law_190 ?_
  refine pw_sload d_LW_law_191 (hin 3 (by omega)) ?_
  refine c_LW_law_192 rfl (Nat.le_of_ble_eq_true rfl) p2 ?_
  refine pw_istore d_LW_law_195 (by decide) ?_
  dsimp only [stL, kil, isL, cat]
  refine pw_aload_n d_LW_law_197 rfl ?_
  refine c_LW_law_198 rfl (Nat.le_of_ble_eq_true rfl) mo_thrown ?_
  rw [e0]
  refine pw_iload d_LW_law_201 rfl ?_
  refine pw_icmp_eq (tgt := 208) d_LW_law_203 (by decide) (fun _ => ?_) (fun hQ => absurd (rfl) hQ)
  refine pw_iload d_LW_law_208 rfl ?_
  refine pw_if_ne (tgt := 225) d_LW_law_210 (by decide) (fun hk => ?_) (fun hk => ?_)
  · refine pw_goto (tgt := 1190) d_LW_law_225 (by decide) ?_
    exact hN'
  · refine pw_aload_n d_LW_law_213 rfl ?_
    refine pw_iconst 0 d_LW_law_214 (by decide) ?_
    refine pw_laN (n := 0) d_LW_law_215 rfl (by omega) (by decide) ?_
    rw [eO hk]
    refine pw_iload d_LW_law_216 rfl ?_
    refine pw_i2l d_LW_law_218 ?_
    refine pw_lcmp d_LW_law_219 ?_
    refine pw_if_eq (tgt := 225) d_LW_law_220 (by decide) (fun _ => ?_) (fun hQ => absurd ((lg_eq _ _).mpr rfl) hQ)
    refine pw_goto (tgt := 1190) d_LW_law_225 (by decide) ?_
    exact hN'
theorem lc_put (r : Rel M t) (ht : t ≤ 512) (hin : ∀ k, k ≤ 12 → vp_in (nI (13 * t) + nI k) G.2.2.2.1) (hN : ∀ M2 x5 x6 x7, Rel M2 (t + 1) → ∃ M', PW G l m_LW_law 1190 [some (vR (some SK)), some (vR (some TKK)), some (vR (some MK)), some (vR (some OK_)), some (vI (nI (13 * t))), x5, x6, x7] [] M2 (rI 1) M' n (6 * n)) (x5 x6 x7 : Option PV) : ∃ M', PW G l m_LW_law 239 [some (vR (some SK)), some (vR (some TKK)), some (vR (some MK)), some (vR (some OK_)), some (vI (nI (13 * t))), x5, x6, x7] [] M (rI 1) M' (n + 1) (6 * (n + 1)) := by
  obtain ⟨k, M1, M2, c, s, p1, p2, e0, r2, hc, hs⟩ := sim_put (G := G) (l := l) r (gs G t 1) (gs G t 2)
  obtain ⟨M', hN'⟩ := hN M2 (some (vI k)) x6 x7 r2
  refine ⟨M', pw_mono (mc := c + n) (ms := s + 6 * n) (by omega) (by omega) ?_⟩
  refine pw_aload_n d_LW_law_239 rfl ?_
  refine pw_aload_n d_LW_law_240 rfl ?_
  refine pw_iload d_LW_law_241 rfl ?_
  refine pw_iconst 1 d_LW_law_243 (by decide) ?_
  refine pw_iadd d_LW_law_244 ?_
  refine pw_sload d_LW_law_245 (hin 1 (by omega)) ?_
  refine pw_aload_n d_LW_law_246 rfl ?_
  refine pw_iload d_LW_law_247 rfl ?_
  refine pw_iconst 2 d_LW_law_249 (by decide) ?_
  refine pw_iadd d_LW_law_250 ?_
  refine pw_sload d_LW_law_251 (hin 2 (by omega)) ?_
  refine cg_LW_law_252 (Nat.le_of_ble_eq_true rfl) p1 ?_
  refine pw_istore d_LW_law_255 (by decide) ?_
  dsimp only [stL, kil, isL, cat]
  refine pw_aload_n d_LW_law_257 rfl ?_
  refine pw_aload_n d_LW_law_258 rfl ?_
  refine pw_iload d_LW_law_259 rfl ?_
  refine pw_iconst 1 d_LW_law_261 (by decide) ?_
  refine pw_iadd d_LW_law_262 ?_
  refine pw_sload d_LW_law_263 (hin 1 (by omega)) ?_
  refine pw_aload_n d_LW_law_264 rfl ?_
  refine pw_iload d_LW_law_265 rfl ?_
  refine pw_iconst 2 d_LW_law_267 (by decide) ?_
  refine pw_iadd d_LW_law_268 ?_
  refine pw_sload d_LW_law_269 (hin 2 (by omega)) ?_
  refine c_LW_law_270 rfl (Nat.le_of_ble_eq_true rfl) p2 ?_
  refine pw_aload_n d_LW_law_273 rfl ?_
  refine c_LW_law_274 rfl (Nat.le_of_ble_eq_true rfl) mo_thrown ?_
  rw [e0]
  refine pw_iload d_LW_law_277 rfl ?_
  refine pw_icmp_eq (tgt := 284) d_LW_law_279 (by decide) (fun _ => ?_) (fun hQ => absurd (rfl) hQ)
  refine pw_goto (tgt := 1190) d_LW_law_284 (by decide) ?_
  exact hN'
theorem lc_pass (r : Rel M t) (ht : t ≤ 512) (hin : ∀ k, k ≤ 12 → vp_in (nI (13 * t) + nI k) G.2.2.2.1) (hN : ∀ M2 x5 x6 x7, Rel M2 (t + 1) → ∃ M', PW G l m_LW_law 1190 [some (vR (some SK)), some (vR (some TKK)), some (vR (some MK)), some (vR (some OK_)), some (vI (nI (13 * t))), x5, x6, x7] [] M2 (rI 1) M' n (6 * n)) (x5 x6 x7 : Option PV) : ∃ M', PW G l m_LW_law 287 [some (vR (some SK)), some (vR (some TKK)), some (vR (some MK)), some (vR (some OK_)), some (vI (nI (13 * t))), x5, x6, x7] [] M (rI 1) M' (n + 1) (6 * (n + 1)) := by
  obtain ⟨k, b, M1, M2, c, s, p1, p2, e0, eO, r2, hc, hs⟩ := sim_pass (G := G) (l := l) r (gs G t 1)
  obtain ⟨M', hN'⟩ := hN M2 (some (vI k)) (some (vI b)) x7 r2
  refine ⟨M', pw_mono (mc := c + n) (ms := s + 6 * n) (by omega) (by omega) ?_⟩
  refine pw_aload_n d_LW_law_287 rfl ?_
  refine pw_aload_n d_LW_law_288 rfl ?_
  refine pw_iload d_LW_law_289 rfl ?_
  refine pw_iconst 1 d_LW_law_291 (by decide) ?_
  refine pw_iadd d_LW_law_292 ?_
  refine pw_sload d_LW_law_293 (hin 1 (by omega)) ?_
  refine pw_aload_n d_LW_law_294 rfl ?_
  refine cg_LW_law_295 (Nat.le_of_ble_eq_true rfl) p1 ?_
  refine pw_istore d_LW_law_298 (by decide) ?_
  dsimp only [stL, kil, isL, cat]
  refine pw_aload_n d_LW_law_300 rfl ?_
  refine pw_aload_n d_LW_law_301 rfl ?_
  refine pw_iload d_LW_law_302 rfl ?_
  refine pw_iconst 1 d_LW_law_304 (by decide) ?_
  refine pw_iadd d_LW_law_305 ?_
  refine pw_sload d_LW_law_306 (hin 1 (by omega)) ?_
  refine c_LW_law_307 rfl (Nat.le_of_ble_eq_true rfl) p2 ?_
  refine pw_istore d_LW_law_310 (by decide) ?_
  dsimp only [stL, kil, isL, cat]
  refine pw_aload_n d_LW_law_312 rfl ?_
  refine c_LW_law_313 rfl (Nat.le_of_ble_eq_true rfl) mo_thrown ?_
  rw [e0]
  refine pw_iload d_LW_law_316 rfl ?_
  refine pw_icmp_eq (tgt := 323) d_LW_law_318 (by decide) (fun _ => ?_) (fun hQ => absurd (rfl) hQ)
  refine pw_iload d_LW_law_323 rfl ?_
  refine pw_if_ne (tgt := 340) d_LW_law_325 (by decide) (fun hk => ?_) (fun hk => ?_)
  · refine pw_goto (tgt := 1190) d_LW_law_340 (by decide) ?_
    exact hN'
  · refine pw_aload_n d_LW_law_328 rfl ?_
    refine pw_iconst 0 d_LW_law_329 (by decide) ?_
    refine pw_laN (n := 0) d_LW_law_330 rfl (by omega) (by decide) ?_
    rw [eO hk]
    refine pw_iload d_LW_law_331 rfl ?_
    refine pw_i2l d_LW_law_333 ?_
    refine pw_lcmp d_LW_law_334 ?_
    refine pw_if_eq (tgt := 340) d_LW_law_335 (by decide) (fun _ => ?_) (fun hQ => absurd ((lg_eq _ _).mpr rfl) hQ)
    refine pw_goto (tgt := 1190) d_LW_law_340 (by decide) ?_
    exact hN'
theorem lc_drift (r : Rel M t) (ht : t ≤ 512) (hin : ∀ k, k ≤ 12 → vp_in (nI (13 * t) + nI k) G.2.2.2.1) (hN : ∀ M2 x5 x6 x7, Rel M2 (t + 1) → ∃ M', PW G l m_LW_law 1190 [some (vR (some SK)), some (vR (some TKK)), some (vR (some MK)), some (vR (some OK_)), some (vI (nI (13 * t))), x5, x6, x7] [] M2 (rI 1) M' n (6 * n)) (x5 x6 x7 : Option PV) : ∃ M', PW G l m_LW_law 412 [some (vR (some SK)), some (vR (some TKK)), some (vR (some MK)), some (vR (some OK_)), some (vI (nI (13 * t))), x5, x6, x7] [] M (rI 1) M' (n + 1) (6 * (n + 1)) := by
  obtain ⟨k, M1, M2, c, s, p1, p2, e0, r2, hc, hs⟩ := sim_drift (G := G) (l := l) r (gs G t 1)
  obtain ⟨M', hN'⟩ := hN M2 (some (vI k)) x6 x7 r2
  refine ⟨M', pw_mono (mc := c + n) (ms := s + 6 * n) (by omega) (by omega) ?_⟩
  refine pw_aload_n d_LW_law_412 rfl ?_
  refine pw_aload_n d_LW_law_413 rfl ?_
  refine pw_iload d_LW_law_414 rfl ?_
  refine pw_iconst 1 d_LW_law_416 (by decide) ?_
  refine pw_iadd d_LW_law_417 ?_
  refine pw_sload d_LW_law_418 (hin 1 (by omega)) ?_
  refine cg_LW_law_419 (Nat.le_of_ble_eq_true rfl) p1 ?_
  refine pw_istore d_LW_law_422 (by decide) ?_
  dsimp only [stL, kil, isL, cat]
  refine pw_aload_n d_LW_law_424 rfl ?_
  refine pw_aload_n d_LW_law_425 rfl ?_
  refine pw_iload d_LW_law_426 rfl ?_
  refine pw_iconst 1 d_LW_law_428 (by decide) ?_
  refine pw_iadd d_LW_law_429 ?_
  refine pw_sload d_LW_law_430 (hin 1 (by omega)) ?_
  refine c_LW_law_431 rfl (Nat.le_of_ble_eq_true rfl) p2 ?_
  refine pw_aload_n d_LW_law_434 rfl ?_
  refine c_LW_law_435 rfl (Nat.le_of_ble_eq_true rfl) mo_thrown ?_
  rw [e0]
  refine pw_iload d_LW_law_438 rfl ?_
  refine pw_icmp_eq (tgt := 445) d_LW_law_440 (by decide) (fun _ => ?_) (fun hQ => absurd (rfl) hQ)
  refine pw_goto (tgt := 1190) d_LW_law_445 (by decide) ?_
  exact hN'
theorem lc_request (r : Rel M t) (ht : t ≤ 512) (hin : ∀ k, k ≤ 12 → vp_in (nI (13 * t) + nI k) G.2.2.2.1) (hN : ∀ M2 x5 x6 x7, Rel M2 (t + 1) → ∃ M', PW G l m_LW_law 1190 [some (vR (some SK)), some (vR (some TKK)), some (vR (some MK)), some (vR (some OK_)), some (vI (nI (13 * t))), x5, x6, x7] [] M2 (rI 1) M' n (6 * n)) (x5 x6 x7 : Option PV) : ∃ M', PW G l m_LW_law 448 [some (vR (some SK)), some (vR (some TKK)), some (vR (some MK)), some (vR (some OK_)), some (vI (nI (13 * t))), x5, x6, x7] [] M (rI 1) M' (n + 1) (6 * (n + 1)) := by
  obtain ⟨k, b, M1, M2, c, s, p1, p2, e0, eO, r2, hc, hs⟩ := sim_request (G := G) (l := l) r (gs G t 1)
  obtain ⟨M', hN'⟩ := hN M2 (some (vI k)) (some (vL b)) none r2
  refine ⟨M', pw_mono (mc := c + n) (ms := s + 6 * n) (by omega) (by omega) ?_⟩
  refine pw_aload_n d_LW_law_448 rfl ?_
  refine pw_aload_n d_LW_law_449 rfl ?_
  refine pw_iload d_LW_law_450 rfl ?_
  refine pw_iconst 1 d_LW_law_452 (by decide) ?_
  refine pw_iadd d_LW_law_453 ?_
  refine pw_sload d_LW_law_454 (hin 1 (by omega)) ?_
  refine pw_aload_n d_LW_law_455 rfl ?_
  refine cg_LW_law_456 (Nat.le_of_ble_eq_true rfl) p1 ?_
  refine pw_istore d_LW_law_459 (by decide) ?_
  dsimp only [stL, kil, isL, cat]
  refine pw_aload_n d_LW_law_461 rfl ?_
  refine pw_aload_n d_LW_law_462 rfl ?_
  refine pw_iload d_LW_law_463 rfl ?_
  refine pw_iconst 1 d_LW_law_465 (by decide) ?_
  refine pw_iadd d_LW_law_466 ?_
  refine pw_sload d_LW_law_467 (hin 1 (by omega)) ?_
  refine c_LW_law_468 rfl (Nat.le_of_ble_eq_true rfl) p2 ?_
  refine pw_lstore d_LW_law_471 (by decide) ?_
  dsimp only [stL, kil, isL, cat]
  refine pw_aload_n d_LW_law_473 rfl ?_
  refine c_LW_law_474 rfl (Nat.le_of_ble_eq_true rfl) mo_thrown ?_
  rw [e0]
  refine pw_iload d_LW_law_477 rfl ?_
  refine pw_icmp_eq (tgt := 484) d_LW_law_479 (by decide) (fun _ => ?_) (fun hQ => absurd (rfl) hQ)
  refine pw_iload d_LW_law_484 rfl ?_
  refine pw_if_ne (tgt := 500) d_LW_law_486 (by decide) (fun hk => ?_) (fun hk => ?_)
  · refine pw_goto (tgt := 1190) d_LW_law_500 (by decide) ?_
    exact hN'
  · refine pw_aload_n d_LW_law_489 rfl ?_
    refine pw_iconst 0 d_LW_law_490 (by decide) ?_
    refine pw_laN (n := 0) d_LW_law_491 rfl (by omega) (by decide) ?_
    rw [eO hk]
    refine pw_lload d_LW_law_492 rfl ?_
    refine pw_lcmp d_LW_law_494 ?_
    refine pw_if_eq (tgt := 500) d_LW_law_495 (by decide) (fun _ => ?_) (fun hQ => absurd ((lg_eq _ _).mpr rfl) hQ)
    refine pw_goto (tgt := 1190) d_LW_law_500 (by decide) ?_
    exact hN'
theorem lc_hear (r : Rel M t) (ht : t ≤ 512) (hin : ∀ k, k ≤ 12 → vp_in (nI (13 * t) + nI k) G.2.2.2.1) (hN : ∀ M2 x5 x6 x7, Rel M2 (t + 1) → ∃ M', PW G l m_LW_law 1190 [some (vR (some SK)), some (vR (some TKK)), some (vR (some MK)), some (vR (some OK_)), some (vI (nI (13 * t))), x5, x6, x7] [] M2 (rI 1) M' n (6 * n)) (x5 x6 x7 : Option PV) : ∃ M', PW G l m_LW_law 503 [some (vR (some SK)), some (vR (some TKK)), some (vR (some MK)), some (vR (some OK_)), some (vI (nI (13 * t))), x5, x6, x7] [] M (rI 1) M' (n + 1) (6 * (n + 1)) := by
  obtain ⟨k, b, M1, M2, c, s, p1, p2, e0, eO, r2, hc, hs⟩ := sim_hear (G := G) (l := l) r ht (gs G t 1)
  obtain ⟨M', hN'⟩ := hN M2 (some (vI k)) (some (vI b)) x7 r2
  refine ⟨M', pw_mono (mc := c + n) (ms := s + 6 * n) (by omega) (by omega) ?_⟩
  refine pw_aload_n d_LW_law_503 rfl ?_
  refine pw_aload_n d_LW_law_504 rfl ?_
  refine pw_iload d_LW_law_505 rfl ?_
  refine pw_iconst 1 d_LW_law_507 (by decide) ?_
  refine pw_iadd d_LW_law_508 ?_
  refine pw_sload d_LW_law_509 (hin 1 (by omega)) ?_
  refine pw_aload_n d_LW_law_510 rfl ?_
  refine cg_LW_law_511 (Nat.le_of_ble_eq_true rfl) p1 ?_
  refine pw_istore d_LW_law_514 (by decide) ?_
  dsimp only [stL, kil, isL, cat]
  refine pw_aload_n d_LW_law_516 rfl ?_
  refine pw_aload_n d_LW_law_517 rfl ?_
  refine pw_iload d_LW_law_518 rfl ?_
  refine pw_iconst 1 d_LW_law_520 (by decide) ?_
  refine pw_iadd d_LW_law_521 ?_
  refine pw_sload d_LW_law_522 (hin 1 (by omega)) ?_
  refine c_LW_law_523 rfl (Nat.le_of_ble_eq_true rfl) p2 ?_
  refine pw_istore d_LW_law_526 (by decide) ?_
  dsimp only [stL, kil, isL, cat]
  refine pw_aload_n d_LW_law_528 rfl ?_
  refine c_LW_law_529 rfl (Nat.le_of_ble_eq_true rfl) mo_thrown ?_
  rw [e0]
  refine pw_iload d_LW_law_532 rfl ?_
  refine pw_icmp_eq (tgt := 539) d_LW_law_534 (by decide) (fun _ => ?_) (fun hQ => absurd (rfl) hQ)
  refine pw_iload d_LW_law_539 rfl ?_
  refine pw_if_ne (tgt := 556) d_LW_law_541 (by decide) (fun hk => ?_) (fun hk => ?_)
  · refine pw_goto (tgt := 1190) d_LW_law_556 (by decide) ?_
    exact hN'
  · refine pw_aload_n d_LW_law_544 rfl ?_
    refine pw_iconst 0 d_LW_law_545 (by decide) ?_
    refine pw_laN (n := 0) d_LW_law_546 rfl (by omega) (by decide) ?_
    rw [eO hk]
    refine pw_iload d_LW_law_547 rfl ?_
    refine pw_i2l d_LW_law_549 ?_
    refine pw_lcmp d_LW_law_550 ?_
    refine pw_if_eq (tgt := 556) d_LW_law_551 (by decide) (fun _ => ?_) (fun hQ => absurd ((lg_eq _ _).mpr rfl) hQ)
    refine pw_goto (tgt := 1190) d_LW_law_556 (by decide) ?_
    exact hN'
theorem lc_answer (r : Rel M t) (ht : t ≤ 512) (hin : ∀ k, k ≤ 12 → vp_in (nI (13 * t) + nI k) G.2.2.2.1) (hN : ∀ M2 x5 x6 x7, Rel M2 (t + 1) → ∃ M', PW G l m_LW_law 1190 [some (vR (some SK)), some (vR (some TKK)), some (vR (some MK)), some (vR (some OK_)), some (vI (nI (13 * t))), x5, x6, x7] [] M2 (rI 1) M' n (6 * n)) (x5 x6 x7 : Option PV) : ∃ M', PW G l m_LW_law 583 [some (vR (some SK)), some (vR (some TKK)), some (vR (some MK)), some (vR (some OK_)), some (vI (nI (13 * t))), x5, x6, x7] [] M (rI 1) M' (n + 1) (6 * (n + 1)) := by
  obtain ⟨k, b, M1, M2, c, s, p1, p2, e0, eO, r2, hc, hs⟩ := sim_answer (G := G) (l := l) r (gs G t 1) (gs G t 2) (gs G t 3) (gs G t 4) (gw G t 5 6) (gw G t 7 8) (gw G t 9 10) (gw G t 11 12)
  obtain ⟨M', hN'⟩ := hN M2 (some (vI k)) (some (vL b)) none r2
  refine ⟨M', pw_mono (mc := c + n) (ms := s + 6 * n) (by omega) (by omega) ?_⟩
  refine pw_aload_n d_LW_law_583 rfl ?_
  refine pw_aload_n d_LW_law_584 rfl ?_
  refine pw_iload d_LW_law_585 rfl ?_
  refine pw_iconst 1 d_LW_law_587 (by decide) ?_
  refine pw_iadd d_LW_law_588 ?_
  refine pw_sload d_LW_law_589 (hin 1 (by omega)) ?_
  refine pw_aload_n d_LW_law_590 rfl ?_
  refine pw_iload d_LW_law_591 rfl ?_
  refine pw_iconst 2 d_LW_law_593 (by decide) ?_
  refine pw_iadd d_LW_law_594 ?_
  refine pw_sload d_LW_law_595 (hin 2 (by omega)) ?_
  refine pw_aload_n d_LW_law_596 rfl ?_
  refine pw_iload d_LW_law_597 rfl ?_
  refine pw_iconst 3 d_LW_law_599 (by decide) ?_
  refine pw_iadd d_LW_law_600 ?_
  refine pw_sload d_LW_law_601 (hin 3 (by omega)) ?_
  refine pw_aload_n d_LW_law_602 rfl ?_
  refine pw_iload d_LW_law_603 rfl ?_
  refine pw_iconst 4 d_LW_law_605 (by decide) ?_
  refine pw_iadd d_LW_law_606 ?_
  refine pw_sload d_LW_law_607 (hin 4 (by omega)) ?_
  refine pw_aload_n d_LW_law_608 rfl ?_
  refine pw_iload d_LW_law_609 rfl ?_
  refine pw_iconst 5 d_LW_law_611 (by decide) ?_
  refine pw_iadd d_LW_law_612 ?_
  refine pw_sload d_LW_law_613 (hin 5 (by omega)) ?_
  refine pw_i2l d_LW_law_614 ?_
  refine pw_bipush (32) d_LW_law_615 (by decide) ?_
  refine pw_lshl d_LW_law_617 ?_
  refine pw_aload_n d_LW_law_618 rfl ?_
  refine pw_iload d_LW_law_619 rfl ?_
  refine pw_bipush (6) d_LW_law_621 (by decide) ?_
  refine pw_iadd d_LW_law_623 ?_
  refine pw_sload d_LW_law_624 (hin 6 (by omega)) ?_
  refine pw_i2l d_LW_law_625 ?_
  refine pw_ldc2 (4294967295) d_LW_law_626 g1103 ?_
  refine pw_land d_LW_law_629 ?_
  refine pw_lor d_LW_law_630 ?_
  refine pw_aload_n d_LW_law_631 rfl ?_
  refine pw_iload d_LW_law_632 rfl ?_
  refine pw_bipush (7) d_LW_law_634 (by decide) ?_
  refine pw_iadd d_LW_law_636 ?_
  refine pw_sload d_LW_law_637 (hin 7 (by omega)) ?_
  refine pw_i2l d_LW_law_638 ?_
  refine pw_bipush (32) d_LW_law_639 (by decide) ?_
  refine pw_lshl d_LW_law_641 ?_
  refine pw_aload_n d_LW_law_642 rfl ?_
  refine pw_iload d_LW_law_643 rfl ?_
  refine pw_bipush (8) d_LW_law_645 (by decide) ?_
  refine pw_iadd d_LW_law_647 ?_
  refine pw_sload d_LW_law_648 (hin 8 (by omega)) ?_
  refine pw_i2l d_LW_law_649 ?_
  refine pw_ldc2 (4294967295) d_LW_law_650 g1103 ?_
  refine pw_land d_LW_law_653 ?_
  refine pw_lor d_LW_law_654 ?_
  refine pw_aload_n d_LW_law_655 rfl ?_
  refine pw_iload d_LW_law_656 rfl ?_
  refine pw_bipush (9) d_LW_law_658 (by decide) ?_
  refine pw_iadd d_LW_law_660 ?_
  refine pw_sload d_LW_law_661 (hin 9 (by omega)) ?_
  refine pw_i2l d_LW_law_662 ?_
  refine pw_bipush (32) d_LW_law_663 (by decide) ?_
  refine pw_lshl d_LW_law_665 ?_
  refine pw_aload_n d_LW_law_666 rfl ?_
  refine pw_iload d_LW_law_667 rfl ?_
  refine pw_bipush (10) d_LW_law_669 (by decide) ?_
  refine pw_iadd d_LW_law_671 ?_
  refine pw_sload d_LW_law_672 (hin 10 (by omega)) ?_
  refine pw_i2l d_LW_law_673 ?_
  refine pw_ldc2 (4294967295) d_LW_law_674 g1103 ?_
  refine pw_land d_LW_law_677 ?_
  refine pw_lor d_LW_law_678 ?_
  refine pw_aload_n d_LW_law_679 rfl ?_
  refine pw_iload d_LW_law_680 rfl ?_
  refine pw_bipush (11) d_LW_law_682 (by decide) ?_
  refine pw_iadd d_LW_law_684 ?_
  refine pw_sload d_LW_law_685 (hin 11 (by omega)) ?_
  refine pw_i2l d_LW_law_686 ?_
  refine pw_bipush (32) d_LW_law_687 (by decide) ?_
  refine pw_lshl d_LW_law_689 ?_
  refine pw_aload_n d_LW_law_690 rfl ?_
  refine pw_iload d_LW_law_691 rfl ?_
  refine pw_bipush (12) d_LW_law_693 (by decide) ?_
  refine pw_iadd d_LW_law_695 ?_
  refine pw_sload d_LW_law_696 (hin 12 (by omega)) ?_
  refine pw_i2l d_LW_law_697 ?_
  refine pw_ldc2 (4294967295) d_LW_law_698 g1103 ?_
  refine pw_land d_LW_law_701 ?_
  refine pw_lor d_LW_law_702 ?_
  refine pw_aload_n d_LW_law_703 rfl ?_
  refine cg_LW_law_704 (Nat.le_of_ble_eq_true rfl) p1 ?_
  refine pw_istore d_LW_law_707 (by decide) ?_
  dsimp only [stL, kil, isL, cat]
  refine pw_aload_n d_LW_law_709 rfl ?_
  refine pw_aload_n d_LW_law_710 rfl ?_
  refine pw_iload d_LW_law_711 rfl ?_
  refine pw_iconst 1 d_LW_law_713 (by decide) ?_
  refine pw_iadd d_LW_law_714 ?_
  refine pw_sload d_LW_law_715 (hin 1 (by omega)) ?_
  refine pw_aload_n d_LW_law_716 rfl ?_
  refine pw_iload d_LW_law_717 rfl ?_
  refine pw_iconst 2 d_LW_law_719 (by decide) ?_
  refine pw_iadd d_LW_law_720 ?_
  refine pw_sload d_LW_law_721 (hin 2 (by omega)) ?_
  refine pw_aload_n d_LW_law_722 rfl ?_
  refine pw_iload d_LW_law_723 rfl ?_
  refine pw_iconst 3 d_LW_law_725 (by decide) ?_
  refine pw_iadd d_LW_law_726 ?_
  refine pw_sload d_LW_law_727 (hin 3 (by omega)) ?_
  refine pw_aload_n d_LW_law_728 rfl ?_
  refine pw_iload d_LW_law_729 rfl ?_
  refine pw_iconst 4 d_LW_law_731 (by decide) ?_
  refine pw_iadd d_LW_law_732 ?_
  refine pw_sload d_LW_law_733 (hin 4 (by omega)) ?_
  refine pw_aload_n d_LW_law_734 rfl ?_
  refine pw_iload d_LW_law_735 rfl ?_
  refine pw_iconst 5 d_LW_law_737 (by decide) ?_
  refine pw_iadd d_LW_law_738 ?_
  refine pw_sload d_LW_law_739 (hin 5 (by omega)) ?_
  refine pw_i2l d_LW_law_740 ?_
  refine pw_bipush (32) d_LW_law_741 (by decide) ?_
  refine pw_lshl d_LW_law_743 ?_
  refine pw_aload_n d_LW_law_744 rfl ?_
  refine pw_iload d_LW_law_745 rfl ?_
  refine pw_bipush (6) d_LW_law_747 (by decide) ?_
  refine pw_iadd d_LW_law_749 ?_
  refine pw_sload d_LW_law_750 (hin 6 (by omega)) ?_
  refine pw_i2l d_LW_law_751 ?_
  refine pw_ldc2 (4294967295) d_LW_law_752 g1103 ?_
  refine pw_land d_LW_law_755 ?_
  refine pw_lor d_LW_law_756 ?_
  refine pw_aload_n d_LW_law_757 rfl ?_
  refine pw_iload d_LW_law_758 rfl ?_
  refine pw_bipush (7) d_LW_law_760 (by decide) ?_
  refine pw_iadd d_LW_law_762 ?_
  refine pw_sload d_LW_law_763 (hin 7 (by omega)) ?_
  refine pw_i2l d_LW_law_764 ?_
  refine pw_bipush (32) d_LW_law_765 (by decide) ?_
  refine pw_lshl d_LW_law_767 ?_
  refine pw_aload_n d_LW_law_768 rfl ?_
  refine pw_iload d_LW_law_769 rfl ?_
  refine pw_bipush (8) d_LW_law_771 (by decide) ?_
  refine pw_iadd d_LW_law_773 ?_
  refine pw_sload d_LW_law_774 (hin 8 (by omega)) ?_
  refine pw_i2l d_LW_law_775 ?_
  refine pw_ldc2 (4294967295) d_LW_law_776 g1103 ?_
  refine pw_land d_LW_law_779 ?_
  refine pw_lor d_LW_law_780 ?_
  refine pw_aload_n d_LW_law_781 rfl ?_
  refine pw_iload d_LW_law_782 rfl ?_
  refine pw_bipush (9) d_LW_law_784 (by decide) ?_
  refine pw_iadd d_LW_law_786 ?_
  refine pw_sload d_LW_law_787 (hin 9 (by omega)) ?_
  refine pw_i2l d_LW_law_788 ?_
  refine pw_bipush (32) d_LW_law_789 (by decide) ?_
  refine pw_lshl d_LW_law_791 ?_
  refine pw_aload_n d_LW_law_792 rfl ?_
  refine pw_iload d_LW_law_793 rfl ?_
  refine pw_bipush (10) d_LW_law_795 (by decide) ?_
  refine pw_iadd d_LW_law_797 ?_
  refine pw_sload d_LW_law_798 (hin 10 (by omega)) ?_
  refine pw_i2l d_LW_law_799 ?_
  refine pw_ldc2 (4294967295) d_LW_law_800 g1103 ?_
  refine pw_land d_LW_law_803 ?_
  refine pw_lor d_LW_law_804 ?_
  refine pw_aload_n d_LW_law_805 rfl ?_
  refine pw_iload d_LW_law_806 rfl ?_
  refine pw_bipush (11) d_LW_law_808 (by decide) ?_
  refine pw_iadd d_LW_law_810 ?_
  refine pw_sload d_LW_law_811 (hin 11 (by omega)) ?_
  refine pw_i2l d_LW_law_812 ?_
  refine pw_bipush (32) d_LW_law_813 (by decide) ?_
  refine pw_lshl d_LW_law_815 ?_
  refine pw_aload_n d_LW_law_816 rfl ?_
  refine pw_iload d_LW_law_817 rfl ?_
  refine pw_bipush (12) d_LW_law_819 (by decide) ?_
  refine pw_iadd d_LW_law_821 ?_
  refine pw_sload d_LW_law_822 (hin 12 (by omega)) ?_
  refine pw_i2l d_LW_law_823 ?_
  refine pw_ldc2 (4294967295) d_LW_law_824 g1103 ?_
  refine pw_land d_LW_law_827 ?_
  refine pw_lor d_LW_law_828 ?_
  refine c_LW_law_829 rfl (Nat.le_of_ble_eq_true rfl) p2 ?_
  refine pw_lstore d_LW_law_832 (by decide) ?_
  dsimp only [stL, kil, isL, cat]
  refine pw_aload_n d_LW_law_834 rfl ?_
  refine c_LW_law_835 rfl (Nat.le_of_ble_eq_true rfl) mo_thrown ?_
  rw [e0]
  refine pw_iload d_LW_law_838 rfl ?_
  refine pw_icmp_eq (tgt := 845) d_LW_law_840 (by decide) (fun _ => ?_) (fun hQ => absurd (rfl) hQ)
  refine pw_iload d_LW_law_845 rfl ?_
  refine pw_if_ne (tgt := 861) d_LW_law_847 (by decide) (fun hk => ?_) (fun hk => ?_)
  · refine pw_goto (tgt := 1190) d_LW_law_861 (by decide) ?_
    exact hN'
  · refine pw_aload_n d_LW_law_850 rfl ?_
    refine pw_iconst 0 d_LW_law_851 (by decide) ?_
    refine pw_laN (n := 0) d_LW_law_852 rfl (by omega) (by decide) ?_
    rw [eO hk]
    refine pw_lload d_LW_law_853 rfl ?_
    refine pw_lcmp d_LW_law_855 ?_
    refine pw_if_eq (tgt := 861) d_LW_law_856 (by decide) (fun _ => ?_) (fun hQ => absurd ((lg_eq _ _).mpr rfl) hQ)
    refine pw_goto (tgt := 1190) d_LW_law_861 (by decide) ?_
    exact hN'
theorem lc_peer (r : Rel M t) (ht : t ≤ 512) (hin : ∀ k, k ≤ 12 → vp_in (nI (13 * t) + nI k) G.2.2.2.1) (hN : ∀ M2 x5 x6 x7, Rel M2 (t + 1) → ∃ M', PW G l m_LW_law 1190 [some (vR (some SK)), some (vR (some TKK)), some (vR (some MK)), some (vR (some OK_)), some (vI (nI (13 * t))), x5, x6, x7] [] M2 (rI 1) M' n (6 * n)) (x5 x6 x7 : Option PV) : ∃ M', PW G l m_LW_law 864 [some (vR (some SK)), some (vR (some TKK)), some (vR (some MK)), some (vR (some OK_)), some (vI (nI (13 * t))), x5, x6, x7] [] M (rI 1) M' (n + 1) (6 * (n + 1)) := by
  obtain ⟨k, b, M1, M2, c, s, p1, p2, e0, eO, r2, hc, hs⟩ := sim_peer (G := G) (l := l) r ht (gs G t 1) (gs G t 2)
  obtain ⟨M', hN'⟩ := hN M2 (some (vI k)) (some (vL b)) none r2
  refine ⟨M', pw_mono (mc := c + n) (ms := s + 6 * n) (by omega) (by omega) ?_⟩
  refine pw_aload_n d_LW_law_864 rfl ?_
  refine pw_aload_n d_LW_law_865 rfl ?_
  refine pw_iload d_LW_law_866 rfl ?_
  refine pw_iconst 1 d_LW_law_868 (by decide) ?_
  refine pw_iadd d_LW_law_869 ?_
  refine pw_sload d_LW_law_870 (hin 1 (by omega)) ?_
  refine pw_aload_n d_LW_law_871 rfl ?_
  refine pw_iload d_LW_law_872 rfl ?_
  refine pw_iconst 2 d_LW_law_874 (by decide) ?_
  refine pw_iadd d_LW_law_875 ?_
  refine pw_sload d_LW_law_876 (hin 2 (by omega)) ?_
  refine pw_aload_n d_LW_law_877 rfl ?_
  refine cg_LW_law_878 (Nat.le_of_ble_eq_true rfl) p1 ?_
  refine pw_istore d_LW_law_881 (by decide) ?_
  dsimp only [stL, kil, isL, cat]
  refine pw_aload_n d_LW_law_883 rfl ?_
  refine pw_aload_n d_LW_law_884 rfl ?_
  refine pw_iload d_LW_law_885 rfl ?_
  refine pw_iconst 1 d_LW_law_887 (by decide) ?_
  refine pw_iadd d_LW_law_888 ?_
  refine pw_sload d_LW_law_889 (hin 1 (by omega)) ?_
  refine pw_aload_n d_LW_law_890 rfl ?_
  refine pw_iload d_LW_law_891 rfl ?_
  refine pw_iconst 2 d_LW_law_893 (by decide) ?_
  refine pw_iadd d_LW_law_894 ?_
  refine pw_sload d_LW_law_895 (hin 2 (by omega)) ?_
  refine c_LW_law_896 rfl (Nat.le_of_ble_eq_true rfl) p2 ?_
  refine pw_lstore d_LW_law_899 (by decide) ?_
  dsimp only [stL, kil, isL, cat]
  refine pw_aload_n d_LW_law_901 rfl ?_
  refine c_LW_law_902 rfl (Nat.le_of_ble_eq_true rfl) mo_thrown ?_
  rw [e0]
  refine pw_iload d_LW_law_905 rfl ?_
  refine pw_icmp_eq (tgt := 912) d_LW_law_907 (by decide) (fun _ => ?_) (fun hQ => absurd (rfl) hQ)
  refine pw_iload d_LW_law_912 rfl ?_
  refine pw_if_ne (tgt := 928) d_LW_law_914 (by decide) (fun hk => ?_) (fun hk => ?_)
  · refine pw_goto (tgt := 1190) d_LW_law_928 (by decide) ?_
    exact hN'
  · refine pw_aload_n d_LW_law_917 rfl ?_
    refine pw_iconst 0 d_LW_law_918 (by decide) ?_
    refine pw_laN (n := 0) d_LW_law_919 rfl (by omega) (by decide) ?_
    rw [eO hk]
    refine pw_lload d_LW_law_920 rfl ?_
    refine pw_lcmp d_LW_law_922 ?_
    refine pw_if_eq (tgt := 928) d_LW_law_923 (by decide) (fun _ => ?_) (fun hQ => absurd ((lg_eq _ _).mpr rfl) hQ)
    refine pw_goto (tgt := 1190) d_LW_law_928 (by decide) ?_
    exact hN'
theorem lc_sample (r : Rel M t) (ht : t ≤ 512) (hin : ∀ k, k ≤ 12 → vp_in (nI (13 * t) + nI k) G.2.2.2.1) (hN : ∀ M2 x5 x6 x7, Rel M2 (t + 1) → ∃ M', PW G l m_LW_law 1190 [some (vR (some SK)), some (vR (some TKK)), some (vR (some MK)), some (vR (some OK_)), some (vI (nI (13 * t))), x5, x6, x7] [] M2 (rI 1) M' n (6 * n)) (x5 x6 x7 : Option PV) : ∃ M', PW G l m_LW_law 931 [some (vR (some SK)), some (vR (some TKK)), some (vR (some MK)), some (vR (some OK_)), some (vI (nI (13 * t))), x5, x6, x7] [] M (rI 1) M' (n + 1) (6 * (n + 1)) := by
  obtain ⟨k, b, M1, M2, c, s, p1, p2, e0, eO, r2, hc, hs⟩ := sim_sample (G := G) (l := l) r ht (gs G t 1) (gs G t 2) (gs G t 3)
  obtain ⟨M', hN'⟩ := hN M2 (some (vI k)) (some (vL b)) none r2
  refine ⟨M', pw_mono (mc := c + n) (ms := s + 6 * n) (by omega) (by omega) ?_⟩
  refine pw_aload_n d_LW_law_931 rfl ?_
  refine pw_aload_n d_LW_law_932 rfl ?_
  refine pw_iload d_LW_law_933 rfl ?_
  refine pw_iconst 1 d_LW_law_935 (by decide) ?_
  refine pw_iadd d_LW_law_936 ?_
  refine pw_sload d_LW_law_937 (hin 1 (by omega)) ?_
  refine pw_aload_n d_LW_law_938 rfl ?_
  refine pw_iload d_LW_law_939 rfl ?_
  refine pw_iconst 2 d_LW_law_941 (by decide) ?_
  refine pw_iadd d_LW_law_942 ?_
  refine pw_sload d_LW_law_943 (hin 2 (by omega)) ?_
  refine pw_aload_n d_LW_law_944 rfl ?_
  refine pw_iload d_LW_law_945 rfl ?_
  refine pw_iconst 3 d_LW_law_947 (by decide) ?_
  refine pw_iadd d_LW_law_948 ?_
  refine pw_sload d_LW_law_949 (hin 3 (by omega)) ?_
  refine pw_aload_n d_LW_law_950 rfl ?_
  refine cg_LW_law_951 (Nat.le_of_ble_eq_true rfl) p1 ?_
  refine pw_istore d_LW_law_954 (by decide) ?_
  dsimp only [stL, kil, isL, cat]
  refine pw_aload_n d_LW_law_956 rfl ?_
  refine pw_aload_n d_LW_law_957 rfl ?_
  refine pw_iload d_LW_law_958 rfl ?_
  refine pw_iconst 1 d_LW_law_960 (by decide) ?_
  refine pw_iadd d_LW_law_961 ?_
  refine pw_sload d_LW_law_962 (hin 1 (by omega)) ?_
  refine pw_aload_n d_LW_law_963 rfl ?_
  refine pw_iload d_LW_law_964 rfl ?_
  refine pw_iconst 2 d_LW_law_966 (by decide) ?_
  refine pw_iadd d_LW_law_967 ?_
  refine pw_sload d_LW_law_968 (hin 2 (by omega)) ?_
  refine pw_aload_n d_LW_law_969 rfl ?_
  refine pw_iload d_LW_law_970 rfl ?_
  refine pw_iconst 3 d_LW_law_972 (by decide) ?_
  refine pw_iadd d_LW_law_973 ?_
  refine pw_sload d_LW_law_974 (hin 3 (by omega)) ?_
  refine c_LW_law_975 rfl (Nat.le_of_ble_eq_true rfl) p2 ?_
  refine pw_lstore d_LW_law_978 (by decide) ?_
  dsimp only [stL, kil, isL, cat]
  refine pw_aload_n d_LW_law_980 rfl ?_
  refine c_LW_law_981 rfl (Nat.le_of_ble_eq_true rfl) mo_thrown ?_
  rw [e0]
  refine pw_iload d_LW_law_984 rfl ?_
  refine pw_icmp_eq (tgt := 991) d_LW_law_986 (by decide) (fun _ => ?_) (fun hQ => absurd (rfl) hQ)
  refine pw_iload d_LW_law_991 rfl ?_
  refine pw_if_ne (tgt := 1007) d_LW_law_993 (by decide) (fun hk => ?_) (fun hk => ?_)
  · refine pw_goto (tgt := 1190) d_LW_law_1007 (by decide) ?_
    exact hN'
  · refine pw_aload_n d_LW_law_996 rfl ?_
    refine pw_iconst 0 d_LW_law_997 (by decide) ?_
    refine pw_laN (n := 0) d_LW_law_998 rfl (by omega) (by decide) ?_
    rw [eO hk]
    refine pw_lload d_LW_law_999 rfl ?_
    refine pw_lcmp d_LW_law_1001 ?_
    refine pw_if_eq (tgt := 1007) d_LW_law_1002 (by decide) (fun _ => ?_) (fun hQ => absurd ((lg_eq _ _).mpr rfl) hQ)
    refine pw_goto (tgt := 1190) d_LW_law_1007 (by decide) ?_
    exact hN'
theorem lc_chosen (r : Rel M t) (ht : t ≤ 512) (hin : ∀ k, k ≤ 12 → vp_in (nI (13 * t) + nI k) G.2.2.2.1) (hN : ∀ M2 x5 x6 x7, Rel M2 (t + 1) → ∃ M', PW G l m_LW_law 1190 [some (vR (some SK)), some (vR (some TKK)), some (vR (some MK)), some (vR (some OK_)), some (vI (nI (13 * t))), x5, x6, x7] [] M2 (rI 1) M' n (6 * n)) (x5 x6 x7 : Option PV) : ∃ M', PW G l m_LW_law 1010 [some (vR (some SK)), some (vR (some TKK)), some (vR (some MK)), some (vR (some OK_)), some (vI (nI (13 * t))), x5, x6, x7] [] M (rI 1) M' (n + 1) (6 * (n + 1)) := by
  obtain ⟨k, b, M1, M2, c, s, p1, p2, e0, eO, r2, hc, hs⟩ := sim_chosen (G := G) (l := l) r (gs G t 1)
  obtain ⟨M', hN'⟩ := hN M2 (some (vI k)) (some (vI b)) x7 r2
  refine ⟨M', pw_mono (mc := c + n) (ms := s + 6 * n) (by omega) (by omega) ?_⟩
  refine pw_aload_n d_LW_law_1010 rfl ?_
  refine pw_aload_n d_LW_law_1011 rfl ?_
  refine pw_iload d_LW_law_1012 rfl ?_
  refine pw_iconst 1 d_LW_law_1014 (by decide) ?_
  refine pw_iadd d_LW_law_1015 ?_
  refine pw_sload d_LW_law_1016 (hin 1 (by omega)) ?_
  refine pw_aload_n d_LW_law_1017 rfl ?_
  refine cg_LW_law_1018 (Nat.le_of_ble_eq_true rfl) p1 ?_
  refine pw_istore d_LW_law_1021 (by decide) ?_
  dsimp only [stL, kil, isL, cat]
  refine pw_aload_n d_LW_law_1023 rfl ?_
  refine pw_aload_n d_LW_law_1024 rfl ?_
  refine pw_iload d_LW_law_1025 rfl ?_
  refine pw_iconst 1 d_LW_law_1027 (by decide) ?_
  refine pw_iadd d_LW_law_1028 ?_
  refine pw_sload d_LW_law_1029 (hin 1 (by omega)) ?_
  refine c_LW_law_1030 rfl (Nat.le_of_ble_eq_true rfl) p2 ?_
  refine pw_istore d_LW_law_1033 (by decide) ?_
  dsimp only [stL, kil, isL, cat]
  refine pw_aload_n d_LW_law_1035 rfl ?_
  refine c_LW_law_1036 rfl (Nat.le_of_ble_eq_true rfl) mo_thrown ?_
  rw [e0]
  refine pw_iload d_LW_law_1039 rfl ?_
  refine pw_icmp_eq (tgt := 1046) d_LW_law_1041 (by decide) (fun _ => ?_) (fun hQ => absurd (rfl) hQ)
  refine pw_iload d_LW_law_1046 rfl ?_
  refine pw_if_ne (tgt := 1063) d_LW_law_1048 (by decide) (fun hk => ?_) (fun hk => ?_)
  · refine pw_goto (tgt := 1190) d_LW_law_1063 (by decide) ?_
    exact hN'
  · refine pw_aload_n d_LW_law_1051 rfl ?_
    refine pw_iconst 0 d_LW_law_1052 (by decide) ?_
    refine pw_laN (n := 0) d_LW_law_1053 rfl (by omega) (by decide) ?_
    rw [eO hk]
    refine pw_iload d_LW_law_1054 rfl ?_
    refine pw_i2l d_LW_law_1056 ?_
    refine pw_lcmp d_LW_law_1057 ?_
    refine pw_if_eq (tgt := 1063) d_LW_law_1058 (by decide) (fun _ => ?_) (fun hQ => absurd ((lg_eq _ _).mpr rfl) hQ)
    refine pw_goto (tgt := 1190) d_LW_law_1063 (by decide) ?_
    exact hN'
theorem lc_about (r : Rel M t) (ht : t ≤ 512) (hin : ∀ k, k ≤ 12 → vp_in (nI (13 * t) + nI k) G.2.2.2.1) (hN : ∀ M2 x5 x6 x7, Rel M2 (t + 1) → ∃ M', PW G l m_LW_law 1190 [some (vR (some SK)), some (vR (some TKK)), some (vR (some MK)), some (vR (some OK_)), some (vI (nI (13 * t))), x5, x6, x7] [] M2 (rI 1) M' n (6 * n)) (x5 x6 x7 : Option PV) : ∃ M', PW G l m_LW_law 1066 [some (vR (some SK)), some (vR (some TKK)), some (vR (some MK)), some (vR (some OK_)), some (vI (nI (13 * t))), x5, x6, x7] [] M (rI 1) M' (n + 1) (6 * (n + 1)) := by
  obtain ⟨k, b, M1, M2, c, s, p1, p2, e0, eO, r2, hc, hs⟩ := sim_about (G := G) (l := l) r (gs G t 1)
  obtain ⟨M', hN'⟩ := hN M2 (some (vI k)) (some (vL b)) none r2
  refine ⟨M', pw_mono (mc := c + n) (ms := s + 6 * n) (by omega) (by omega) ?_⟩
  refine pw_aload_n d_LW_law_1066 rfl ?_
  refine pw_aload_n d_LW_law_1067 rfl ?_
  refine pw_iload d_LW_law_1068 rfl ?_
  refine pw_iconst 1 d_LW_law_1070 (by decide) ?_
  refine pw_iadd d_LW_law_1071 ?_
  refine pw_sload d_LW_law_1072 (hin 1 (by omega)) ?_
  refine pw_aload_n d_LW_law_1073 rfl ?_
  refine cg_LW_law_1074 (Nat.le_of_ble_eq_true rfl) p1 ?_
  refine pw_istore d_LW_law_1077 (by decide) ?_
  dsimp only [stL, kil, isL, cat]
  refine pw_aload_n d_LW_law_1079 rfl ?_
  refine pw_aload_n d_LW_law_1080 rfl ?_
  refine pw_iload d_LW_law_1081 rfl ?_
  refine pw_iconst 1 d_LW_law_1083 (by decide) ?_
  refine pw_iadd d_LW_law_1084 ?_
  refine pw_sload d_LW_law_1085 (hin 1 (by omega)) ?_
  refine c_LW_law_1086 rfl (Nat.le_of_ble_eq_true rfl) p2 ?_
  refine pw_lstore d_LW_law_1089 (by decide) ?_
  dsimp only [stL, kil, isL, cat]
  refine pw_aload_n d_LW_law_1091 rfl ?_
  refine c_LW_law_1092 rfl (Nat.le_of_ble_eq_true rfl) mo_thrown ?_
  rw [e0]
  refine pw_iload d_LW_law_1095 rfl ?_
  refine pw_icmp_eq (tgt := 1102) d_LW_law_1097 (by decide) (fun _ => ?_) (fun hQ => absurd (rfl) hQ)
  refine pw_iload d_LW_law_1102 rfl ?_
  refine pw_if_ne (tgt := 1118) d_LW_law_1104 (by decide) (fun hk => ?_) (fun hk => ?_)
  · refine pw_goto (tgt := 1190) d_LW_law_1118 (by decide) ?_
    exact hN'
  · refine pw_aload_n d_LW_law_1107 rfl ?_
    refine pw_iconst 0 d_LW_law_1108 (by decide) ?_
    refine pw_laN (n := 0) d_LW_law_1109 rfl (by omega) (by decide) ?_
    rw [eO hk]
    refine pw_lload d_LW_law_1110 rfl ?_
    refine pw_lcmp d_LW_law_1112 ?_
    refine pw_if_eq (tgt := 1118) d_LW_law_1113 (by decide) (fun _ => ?_) (fun hQ => absurd ((lg_eq _ _).mpr rfl) hQ)
    refine pw_goto (tgt := 1190) d_LW_law_1118 (by decide) ?_
    exact hN'
theorem lc_out (r : Rel M t) (ht : t ≤ 512) (hin : ∀ k, k ≤ 12 → vp_in (nI (13 * t) + nI k) G.2.2.2.1) (hN : ∀ M2 x5 x6 x7, Rel M2 (t + 1) → ∃ M', PW G l m_LW_law 1190 [some (vR (some SK)), some (vR (some TKK)), some (vR (some MK)), some (vR (some OK_)), some (vI (nI (13 * t))), x5, x6, x7] [] M2 (rI 1) M' n (6 * n)) (x5 x6 x7 : Option PV) : ∃ M', PW G l m_LW_law 1134 [some (vR (some SK)), some (vR (some TKK)), some (vR (some MK)), some (vR (some OK_)), some (vI (nI (13 * t))), x5, x6, x7] [] M (rI 1) M' (n + 1) (6 * (n + 1)) := by
  obtain ⟨k, b, M1, M2, c, s, p1, p2, e0, eO, r2, hc, hs⟩ := sim_out (G := G) (l := l) r (gs G t 1)
  obtain ⟨M', hN'⟩ := hN M2 (some (vI k)) (some (vI b)) x7 r2
  refine ⟨M', pw_mono (mc := c + n) (ms := s + 6 * n) (by omega) (by omega) ?_⟩
  refine pw_aload_n d_LW_law_1134 rfl ?_
  refine pw_aload_n d_LW_law_1135 rfl ?_
  refine pw_iload d_LW_law_1136 rfl ?_
  refine pw_iconst 1 d_LW_law_1138 (by decide) ?_
  refine pw_iadd d_LW_law_1139 ?_
  refine pw_sload d_LW_law_1140 (hin 1 (by omega)) ?_
  refine pw_aload_n d_LW_law_1141 rfl ?_
  refine cg_LW_law_1142 (Nat.le_of_ble_eq_true rfl) p1 ?_
  refine pw_istore d_LW_law_1145 (by decide) ?_
  dsimp only [stL, kil, isL, cat]
  refine pw_aload_n d_LW_law_1147 rfl ?_
  refine pw_aload_n d_LW_law_1148 rfl ?_
  refine pw_iload d_LW_law_1149 rfl ?_
  refine pw_iconst 1 d_LW_law_1151 (by decide) ?_
  refine pw_iadd d_LW_law_1152 ?_
  refine pw_sload d_LW_law_1153 (hin 1 (by omega)) ?_
  refine c_LW_law_1154 rfl (Nat.le_of_ble_eq_true rfl) p2 ?_
  refine pw_istore d_LW_law_1157 (by decide) ?_
  dsimp only [stL, kil, isL, cat]
  refine pw_aload_n d_LW_law_1159 rfl ?_
  refine c_LW_law_1160 rfl (Nat.le_of_ble_eq_true rfl) mo_thrown ?_
  rw [e0]
  refine pw_iload d_LW_law_1163 rfl ?_
  refine pw_icmp_eq (tgt := 1170) d_LW_law_1165 (by decide) (fun _ => ?_) (fun hQ => absurd (rfl) hQ)
  refine pw_iload d_LW_law_1170 rfl ?_
  refine pw_if_ne (tgt := 1187) d_LW_law_1172 (by decide) (fun hk => ?_) (fun hk => ?_)
  · refine pw_goto (tgt := 1190) d_LW_law_1187 (by decide) ?_
    exact hN'
  · refine pw_aload_n d_LW_law_1175 rfl ?_
    refine pw_iconst 0 d_LW_law_1176 (by decide) ?_
    refine pw_laN (n := 0) d_LW_law_1177 rfl (by omega) (by decide) ?_
    rw [eO hk]
    refine pw_iload d_LW_law_1178 rfl ?_
    refine pw_i2l d_LW_law_1180 ?_
    refine pw_lcmp d_LW_law_1181 ?_
    refine pw_if_eq (tgt := 1187) d_LW_law_1182 (by decide) (fun _ => ?_) (fun hQ => absurd ((lg_eq _ _).mpr rfl) hQ)
    refine pw_goto (tgt := 1190) d_LW_law_1187 (by decide) ?_
    exact hN'
theorem lc_wipe (r : Rel M t) (ht : t ≤ 512) (hin : ∀ k, k ≤ 12 → vp_in (nI (13 * t) + nI k) G.2.2.2.1) (hN : ∀ M2 x5 x6 x7, Rel M2 (t + 1) → ∃ M', PW G l m_LW_law 1190 [some (vR (some SK)), some (vR (some TKK)), some (vR (some MK)), some (vR (some OK_)), some (vI (nI (13 * t))), x5, x6, x7] [] M2 (rI 1) M' n (6 * n)) (x5 x6 x7 : Option PV) : ∃ M', PW G l m_LW_law 228 [some (vR (some SK)), some (vR (some TKK)), some (vR (some MK)), some (vR (some OK_)), some (vI (nI (13 * t))), x5, x6, x7] [] M (rI 1) M' (n + 1) (6 * (n + 1)) := by
  obtain ⟨M1, M2, p1, p2, r2⟩ := sim_wipe (G := G) (l := l) r 
  obtain ⟨M', hN'⟩ := hN M2 x5 x6 x7 r2
  refine ⟨M', pw_mono (mc := n) (ms := 6 * n) (by omega) (by omega) ?_⟩
  refine pw_aload_n d_LW_law_228 rfl ?_
  refine c_LW_law_229 rfl (Nat.le_of_ble_eq_true rfl) p1 ?_
  refine pw_aload_n d_LW_law_232 rfl ?_
  refine c_LW_law_233 rfl (Nat.le_of_ble_eq_true rfl) p2 ?_
  refine pw_goto (tgt := 1190) d_LW_law_236 (by decide) ?_
  exact hN'
theorem lc_set (r : Rel M t) (ht : t ≤ 512) (hin : ∀ k, k ≤ 12 → vp_in (nI (13 * t) + nI k) G.2.2.2.1) (hN : ∀ M2 x5 x6 x7, Rel M2 (t + 1) → ∃ M', PW G l m_LW_law 1190 [some (vR (some SK)), some (vR (some TKK)), some (vR (some MK)), some (vR (some OK_)), some (vI (nI (13 * t))), x5, x6, x7] [] M2 (rI 1) M' n (6 * n)) (x5 x6 x7 : Option PV) : ∃ M', PW G l m_LW_law 357 [some (vR (some SK)), some (vR (some TKK)), some (vR (some MK)), some (vR (some OK_)), some (vI (nI (13 * t))), x5, x6, x7] [] M (rI 1) M' (n + 1) (6 * (n + 1)) := by
  obtain ⟨M1, M2, p1, p2, r2⟩ := sim_set (G := G) (l := l) r (gw G t 1 2)
  obtain ⟨M', hN'⟩ := hN M2 x5 x6 x7 r2
  refine ⟨M', pw_mono (mc := n) (ms := 6 * n) (by omega) (by omega) ?_⟩
  refine pw_aload_n d_LW_law_357 rfl ?_
  refine pw_aload_n d_LW_law_358 rfl ?_
  refine pw_iload d_LW_law_359 rfl ?_
  refine pw_iconst 1 d_LW_law_361 (by decide) ?_
  refine pw_iadd d_LW_law_362 ?_
  refine pw_sload d_LW_law_363 (hin 1 (by omega)) ?_
  refine pw_i2l d_LW_law_364 ?_
  refine pw_bipush (32) d_LW_law_365 (by decide) ?_
  refine pw_lshl d_LW_law_367 ?_
  refine pw_aload_n d_LW_law_368 rfl ?_
  refine pw_iload d_LW_law_369 rfl ?_
  refine pw_iconst 2 d_LW_law_371 (by decide) ?_
  refine pw_iadd d_LW_law_372 ?_
  refine pw_sload d_LW_law_373 (hin 2 (by omega)) ?_
  refine pw_i2l d_LW_law_374 ?_
  refine pw_ldc2 (4294967295) d_LW_law_375 g1103 ?_
  refine pw_land d_LW_law_378 ?_
  refine pw_lor d_LW_law_379 ?_
  refine c_LW_law_380 rfl (Nat.le_of_ble_eq_true rfl) p1 ?_
  refine pw_aload_n d_LW_law_383 rfl ?_
  refine pw_aload_n d_LW_law_384 rfl ?_
  refine pw_iload d_LW_law_385 rfl ?_
  refine pw_iconst 1 d_LW_law_387 (by decide) ?_
  refine pw_iadd d_LW_law_388 ?_
  refine pw_sload d_LW_law_389 (hin 1 (by omega)) ?_
  refine pw_i2l d_LW_law_390 ?_
  refine pw_bipush (32) d_LW_law_391 (by decide) ?_
  refine pw_lshl d_LW_law_393 ?_
  refine pw_aload_n d_LW_law_394 rfl ?_
  refine pw_iload d_LW_law_395 rfl ?_
  refine pw_iconst 2 d_LW_law_397 (by decide) ?_
  refine pw_iadd d_LW_law_398 ?_
  refine pw_sload d_LW_law_399 (hin 2 (by omega)) ?_
  refine pw_i2l d_LW_law_400 ?_
  refine pw_ldc2 (4294967295) d_LW_law_401 g1103 ?_
  refine pw_land d_LW_law_404 ?_
  refine pw_lor d_LW_law_405 ?_
  refine c_LW_law_406 rfl (Nat.le_of_ble_eq_true rfl) p2 ?_
  refine pw_goto (tgt := 1190) d_LW_law_409 (by decide) ?_
  exact hN'
theorem lc_turn (r : Rel M t) (ht : t ≤ 512) (hin : ∀ k, k ≤ 12 → vp_in (nI (13 * t) + nI k) G.2.2.2.1) (hN : ∀ M2 x5 x6 x7, Rel M2 (t + 1) → ∃ M', PW G l m_LW_law 1190 [some (vR (some SK)), some (vR (some TKK)), some (vR (some MK)), some (vR (some OK_)), some (vI (nI (13 * t))), x5, x6, x7] [] M2 (rI 1) M' n (6 * n)) (x5 x6 x7 : Option PV) : ∃ M', PW G l m_LW_law 572 [some (vR (some SK)), some (vR (some TKK)), some (vR (some MK)), some (vR (some OK_)), some (vI (nI (13 * t))), x5, x6, x7] [] M (rI 1) M' (n + 1) (6 * (n + 1)) := by
  obtain ⟨M1, M2, p1, p2, r2⟩ := sim_turn (G := G) (l := l) r 
  obtain ⟨M', hN'⟩ := hN M2 x5 x6 x7 r2
  refine ⟨M', pw_mono (mc := n) (ms := 6 * n) (by omega) (by omega) ?_⟩
  refine pw_aload_n d_LW_law_572 rfl ?_
  refine c_LW_law_573 rfl (Nat.le_of_ble_eq_true rfl) p1 ?_
  refine pw_aload_n d_LW_law_576 rfl ?_
  refine c_LW_law_577 rfl (Nat.le_of_ble_eq_true rfl) p2 ?_
  refine pw_goto (tgt := 1190) d_LW_law_580 (by decide) ?_
  exact hN'
theorem lc_clock (r : Rel M t) (ht : t ≤ 512) (hin : ∀ k, k ≤ 12 → vp_in (nI (13 * t) + nI k) G.2.2.2.1) (hN : ∀ M2 x5 x6 x7, Rel M2 (t + 1) → ∃ M', PW G l m_LW_law 1190 [some (vR (some SK)), some (vR (some TKK)), some (vR (some MK)), some (vR (some OK_)), some (vI (nI (13 * t))), x5, x6, x7] [] M2 (rI 1) M' n (6 * n)) (x5 x6 x7 : Option PV) : ∃ M', PW G l m_LW_law 343 [some (vR (some SK)), some (vR (some TKK)), some (vR (some MK)), some (vR (some OK_)), some (vI (nI (13 * t))), x5, x6, x7] [] M (rI 1) M' (n + 1) (6 * (n + 1)) := by
  obtain ⟨x, M2, p1, p2, r2⟩ := sim_clock (G := G) (l := l) r
  obtain ⟨M', hN'⟩ := hN M2 x5 x6 x7 r2
  refine ⟨M', pw_mono (mc := n) (ms := 6 * n) (by omega) (by omega) ?_⟩
  refine pw_aload_n d_LW_law_343 rfl ?_
  refine c_LW_law_344 rfl (Nat.le_of_ble_eq_true rfl) p1 ?_
  refine pw_aload_n d_LW_law_347 rfl ?_
  refine c_LW_law_348 rfl (Nat.le_of_ble_eq_true rfl) p2 ?_
  refine pw_lcmp d_LW_law_351 ?_
  refine pw_if_eq (tgt := 1190) d_LW_law_352 (by decide) (fun _ => ?_) (fun hQ => absurd ((lg_eq _ _).mpr rfl) hQ)
  exact hN'
theorem lc_size (r : Rel M t) (ht : t ≤ 512) (hin : ∀ k, k ≤ 12 → vp_in (nI (13 * t) + nI k) G.2.2.2.1) (hN : ∀ M2 x5 x6 x7, Rel M2 (t + 1) → ∃ M', PW G l m_LW_law 1190 [some (vR (some SK)), some (vR (some TKK)), some (vR (some MK)), some (vR (some OK_)), some (vI (nI (13 * t))), x5, x6, x7] [] M2 (rI 1) M' n (6 * n)) (x5 x6 x7 : Option PV) : ∃ M', PW G l m_LW_law 1121 [some (vR (some SK)), some (vR (some TKK)), some (vR (some MK)), some (vR (some OK_)), some (vI (nI (13 * t))), x5, x6, x7] [] M (rI 1) M' (n + 1) (6 * (n + 1)) := by
  obtain ⟨x, M2, p1, p2, r2⟩ := sim_size (G := G) (l := l) r
  obtain ⟨M', hN'⟩ := hN M2 x5 x6 x7 r2
  refine ⟨M', pw_mono (mc := n) (ms := 6 * n) (by omega) (by omega) ?_⟩
  refine pw_aload_n d_LW_law_1121 rfl ?_
  refine c_LW_law_1122 rfl (Nat.le_of_ble_eq_true rfl) p1 ?_
  refine pw_aload_n d_LW_law_1125 rfl ?_
  refine c_LW_law_1126 rfl (Nat.le_of_ble_eq_true rfl) p2 ?_
  refine pw_icmp_eq (tgt := 1190) d_LW_law_1129 (by decide) (fun _ => ?_) (fun hQ => absurd (rfl) hQ)
  exact hN'
theorem lc_serve (r : Rel M t) (ht : t ≤ 512) (hin : ∀ k, k ≤ 12 → vp_in (nI (13 * t) + nI k) G.2.2.2.1) (hN : ∀ M2 x5 x6 x7, Rel M2 (t + 1) → ∃ M', PW G l m_LW_law 1190 [some (vR (some SK)), some (vR (some TKK)), some (vR (some MK)), some (vR (some OK_)), some (vI (nI (13 * t))), x5, x6, x7] [] M2 (rI 1) M' n (6 * n)) (x5 x6 x7 : Option PV) : ∃ M', PW G l m_LW_law 559 [some (vR (some SK)), some (vR (some TKK)), some (vR (some MK)), some (vR (some OK_)), some (vI (nI (13 * t))), x5, x6, x7] [] M (rI 1) M' (n + 1) (6 * (n + 1)) := by
  obtain ⟨x, M1, M2, p1, p2, r2⟩ := sim_serve (G := G) (l := l) r
  obtain ⟨M', hN'⟩ := hN M2 x5 x6 x7 r2
  refine ⟨M', pw_mono (mc := n) (ms := 6 * n) (by omega) (by omega) ?_⟩
  refine pw_aload_n d_LW_law_559 rfl ?_
  refine c_LW_law_560 rfl (Nat.le_of_ble_eq_true rfl) p1 ?_
  refine pw_aload_n d_LW_law_563 rfl ?_
  refine c_LW_law_564 rfl (Nat.le_of_ble_eq_true rfl) p2 ?_
  refine pw_icmp_eq (tgt := 1190) d_LW_law_567 (by decide) (fun _ => ?_) (fun hQ => absurd (rfl) hQ)
  exact hN'
theorem nI_and31 (x : Int32) : ∃ k, k < 32 ∧ x &&& 31 = nI k := by
  have e := pk_and x (m := 31) 5 (by decide)
  exact ⟨_, by omega, e⟩
theorem l13 {L : Nat} (h : L ≤ 6656) : (Int32.ofNat L - 13).toInt = (L : Int) - 13 := by
  have e : (Int32.ofNat L).toInt = L := nI_toInt (by omega)
  have e2 : (13 : Int32).toInt = 13 := by decide
  rw [Int32.toInt_sub, e, e2]
  exact Int.bmod_eq_of_le (by omega) (by omega)
theorem law_loop (hL : G.2.2.2.1 ≤ 6656) : ∀ n t M x5 x6 x7, Rel M t → t + n ≤ 512 → G.2.2.2.1 < 13 * (t + n + 1) → ∃ M', PW G l m_LW_law 23 [some (vR (some SK)), some (vR (some TKK)), some (vR (some MK)), some (vR (some OK_)), some (vI (nI (13 * t))), x5, x6, x7] [] M (rI 1) M' n (6 * n) := by
  intro n
  induction n with
  | zero =>
    intro t M x5 x6 x7 r h1 h2
    refine ⟨M, ?_⟩
    refine pw_iload d_LW_law_23 rfl ?_
    refine pw_aload_n d_LW_law_25 rfl ?_
    refine pw_slen d_LW_law_26 ?_
    refine pw_bipush (13) d_LW_law_27 (by decide) ?_
    refine pw_isub d_LW_law_29 ?_
    refine pw_icmp_gt (tgt := 1196) d_LW_law_30 (by decide) (fun _ => ?_) (fun hQ => absurd ((by rw [Int32.lt_iff_toInt_lt, l13 hL, nI_toInt (by omega)]; omega)) hQ)
    refine pw_iconst 1 d_LW_law_1196 (by decide) ?_
    refine pw_zreturn d_LW_law_1197 rfl (Or.inr rfl) rfl rfl
  | succ n ih =>
    intro t M x5 x6 x7 r h1 h2
    by_cases h : G.2.2.2.1 < 13 * t + 13
    · refine ⟨M, ?_⟩
      refine pw_iload d_LW_law_23 rfl ?_
      refine pw_aload_n d_LW_law_25 rfl ?_
      refine pw_slen d_LW_law_26 ?_
      refine pw_bipush (13) d_LW_law_27 (by decide) ?_
      refine pw_isub d_LW_law_29 ?_
      refine pw_icmp_gt (tgt := 1196) d_LW_law_30 (by decide) (fun _ => ?_) (fun hQ => absurd ((by rw [Int32.lt_iff_toInt_lt, l13 hL, nI_toInt (by omega)]; omega)) hQ)
      refine pw_iconst 1 d_LW_law_1196 (by decide) ?_
      refine pw_zreturn d_LW_law_1197 rfl (Or.inr rfl) rfl rfl
    · have hin : ∀ k, k ≤ 12 → vp_in (nI (13 * t) + nI k) G.2.2.2.1 := fun k hk => by
        rw [nI_add]
        exact vp_in_nI (by omega) (by omega)
      have hin0 : vp_in (nI (13 * t)) G.2.2.2.1 := vp_in_nI (by omega) (by omega)
      have hN : ∀ M2 x5 x6 x7, Rel M2 (t + 1) → ∃ M', PW G l m_LW_law 1190 [some (vR (some SK)), some (vR (some TKK)), some (vR (some MK)), some (vR (some OK_)), some (vI (nI (13 * t))), x5, x6, x7] [] M2 (rI 1) M' n (6 * n) := fun M2 x5 x6 x7 r2 => by
        obtain ⟨M', q⟩ := ih (t + 1) M2 x5 x6 x7 r2 (by omega) (by omega)
        refine ⟨M', ?_⟩
        refine pw_iinc (13) d_LW_law_1190 rfl (by decide) (by decide) ?_
        dsimp only [stL, kil, isL, cat]
        refine pw_goto (tgt := 23) d_LW_law_1193 (by decide) ?_
        rw [show nI (13 * t) + 13 = nI (13 * (t + 1)) from (nI_add (a := 13 * t) (b := 13)).trans (by rw [show 13 * t + 13 = 13 * (t + 1) by omega])]
        exact q
      obtain ⟨k, hk, ek⟩ := nI_and31 (G.2.2.2.2 (nI (13 * t)).toNatClampNeg)
      have go : ∀ M', PW G l m_LW_law 40 [some (vR (some SK)), some (vR (some TKK)), some (vR (some MK)), some (vR (some OK_)), some (vI (nI (13 * t))), x5, x6, x7] [vI (nI k)] M (rI 1) M' (n + 1) (6 * (n + 1)) → PW G l m_LW_law 23 [some (vR (some SK)), some (vR (some TKK)), some (vR (some MK)), some (vR (some OK_)), some (vI (nI (13 * t))), x5, x6, x7] [] M (rI 1) M' (n + 1) (6 * (n + 1)) := fun M' q => by
        refine pw_iload d_LW_law_23 rfl ?_
        refine pw_aload_n d_LW_law_25 rfl ?_
        refine pw_slen d_LW_law_26 ?_
        refine pw_bipush (13) d_LW_law_27 (by decide) ?_
        refine pw_isub d_LW_law_29 ?_
        refine pw_icmp_gt (tgt := 1196) d_LW_law_30 (by decide) (fun hQ => absurd hQ ((by rw [Int32.lt_iff_toInt_lt, l13 hL, nI_toInt (by omega)]; omega))) (fun _ => ?_)
        refine pw_aload_n d_LW_law_33 rfl ?_
        refine pw_iload d_LW_law_34 rfl ?_
        refine pw_sload d_LW_law_36 hin0 ?_
        refine pw_bipush (31) d_LW_law_37 (by decide) ?_
        refine pw_iand d_LW_law_39 ?_
        rw [ek]
        exact q
      by_cases k0 : k = 0
      · subst k0
        obtain ⟨M', q⟩ := lc_type (G := G) (l := l) (n := n) r (by omega) hin hN x5 x6 x7
        refine ⟨M', go M' ?_⟩
        refine pw_tableIn (tgt := 128) d_LW_law_40 (by decide) (by decide) rfl (by decide) ?_
        exact q
      by_cases k1 : k = 1
      · subst k1
        obtain ⟨M', q⟩ := lc_wipe (G := G) (l := l) (n := n) r (by omega) hin hN x5 x6 x7
        refine ⟨M', go M' ?_⟩
        refine pw_tableIn (tgt := 228) d_LW_law_40 (by decide) (by decide) rfl (by decide) ?_
        exact q
      by_cases k2 : k = 2
      · subst k2
        obtain ⟨M', q⟩ := lc_put (G := G) (l := l) (n := n) r (by omega) hin hN x5 x6 x7
        refine ⟨M', go M' ?_⟩
        refine pw_tableIn (tgt := 239) d_LW_law_40 (by decide) (by decide) rfl (by decide) ?_
        exact q
      by_cases k3 : k = 3
      · subst k3
        obtain ⟨M', q⟩ := lc_pass (G := G) (l := l) (n := n) r (by omega) hin hN x5 x6 x7
        refine ⟨M', go M' ?_⟩
        refine pw_tableIn (tgt := 287) d_LW_law_40 (by decide) (by decide) rfl (by decide) ?_
        exact q
      by_cases k4 : k = 4
      · subst k4
        obtain ⟨M', q⟩ := lc_clock (G := G) (l := l) (n := n) r (by omega) hin hN x5 x6 x7
        refine ⟨M', go M' ?_⟩
        refine pw_tableIn (tgt := 343) d_LW_law_40 (by decide) (by decide) rfl (by decide) ?_
        exact q
      by_cases k5 : k = 5
      · subst k5
        obtain ⟨M', q⟩ := lc_set (G := G) (l := l) (n := n) r (by omega) hin hN x5 x6 x7
        refine ⟨M', go M' ?_⟩
        refine pw_tableIn (tgt := 357) d_LW_law_40 (by decide) (by decide) rfl (by decide) ?_
        exact q
      by_cases k6 : k = 6
      · subst k6
        obtain ⟨M', q⟩ := lc_drift (G := G) (l := l) (n := n) r (by omega) hin hN x5 x6 x7
        refine ⟨M', go M' ?_⟩
        refine pw_tableIn (tgt := 412) d_LW_law_40 (by decide) (by decide) rfl (by decide) ?_
        exact q
      by_cases k7 : k = 7
      · subst k7
        obtain ⟨M', q⟩ := lc_request (G := G) (l := l) (n := n) r (by omega) hin hN x5 x6 x7
        refine ⟨M', go M' ?_⟩
        refine pw_tableIn (tgt := 448) d_LW_law_40 (by decide) (by decide) rfl (by decide) ?_
        exact q
      by_cases k8 : k = 8
      · subst k8
        obtain ⟨M', q⟩ := lc_hear (G := G) (l := l) (n := n) r (by omega) hin hN x5 x6 x7
        refine ⟨M', go M' ?_⟩
        refine pw_tableIn (tgt := 503) d_LW_law_40 (by decide) (by decide) rfl (by decide) ?_
        exact q
      by_cases k9 : k = 9
      · subst k9
        obtain ⟨M', q⟩ := lc_serve (G := G) (l := l) (n := n) r (by omega) hin hN x5 x6 x7
        refine ⟨M', go M' ?_⟩
        refine pw_tableIn (tgt := 559) d_LW_law_40 (by decide) (by decide) rfl (by decide) ?_
        exact q
      by_cases k10 : k = 10
      · subst k10
        obtain ⟨M', q⟩ := lc_turn (G := G) (l := l) (n := n) r (by omega) hin hN x5 x6 x7
        refine ⟨M', go M' ?_⟩
        refine pw_tableIn (tgt := 572) d_LW_law_40 (by decide) (by decide) rfl (by decide) ?_
        exact q
      by_cases k11 : k = 11
      · subst k11
        obtain ⟨M', q⟩ := lc_answer (G := G) (l := l) (n := n) r (by omega) hin hN x5 x6 x7
        refine ⟨M', go M' ?_⟩
        refine pw_tableIn (tgt := 583) d_LW_law_40 (by decide) (by decide) rfl (by decide) ?_
        exact q
      by_cases k12 : k = 12
      · subst k12
        obtain ⟨M', q⟩ := lc_peer (G := G) (l := l) (n := n) r (by omega) hin hN x5 x6 x7
        refine ⟨M', go M' ?_⟩
        refine pw_tableIn (tgt := 864) d_LW_law_40 (by decide) (by decide) rfl (by decide) ?_
        exact q
      by_cases k13 : k = 13
      · subst k13
        obtain ⟨M', q⟩ := lc_sample (G := G) (l := l) (n := n) r (by omega) hin hN x5 x6 x7
        refine ⟨M', go M' ?_⟩
        refine pw_tableIn (tgt := 931) d_LW_law_40 (by decide) (by decide) rfl (by decide) ?_
        exact q
      by_cases k14 : k = 14
      · subst k14
        obtain ⟨M', q⟩ := lc_chosen (G := G) (l := l) (n := n) r (by omega) hin hN x5 x6 x7
        refine ⟨M', go M' ?_⟩
        refine pw_tableIn (tgt := 1010) d_LW_law_40 (by decide) (by decide) rfl (by decide) ?_
        exact q
      by_cases k15 : k = 15
      · subst k15
        obtain ⟨M', q⟩ := lc_about (G := G) (l := l) (n := n) r (by omega) hin hN x5 x6 x7
        refine ⟨M', go M' ?_⟩
        refine pw_tableIn (tgt := 1066) d_LW_law_40 (by decide) (by decide) rfl (by decide) ?_
        exact q
      by_cases k16 : k = 16
      · subst k16
        obtain ⟨M', q⟩ := lc_size (G := G) (l := l) (n := n) r (by omega) hin hN x5 x6 x7
        refine ⟨M', go M' ?_⟩
        refine pw_tableIn (tgt := 1121) d_LW_law_40 (by decide) (by decide) rfl (by decide) ?_
        exact q
      by_cases k17 : k = 17
      · subst k17
        obtain ⟨M', q⟩ := lc_out (G := G) (l := l) (n := n) r (by omega) hin hN x5 x6 x7
        refine ⟨M', go M' ?_⟩
        refine pw_tableIn (tgt := 1134) d_LW_law_40 (by decide) (by decide) rfl (by decide) ?_
        exact q
      obtain ⟨M', q⟩ := hN M x5 x6 x7 ((sN_r : sN M M).rel (by omega) r)
      refine ⟨M', go M' ?_⟩
      refine pw_tableOut (tgt := 1190) d_LW_law_40 (Or.inr (by rw [nI_toInt (by omega)]; omega)) (by decide) ?_
      exact pw_mono (by omega) (by omega) q
end LAW
