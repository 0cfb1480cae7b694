/-! THE LAW: from its entry -/
theorem rel0 : Rel (nf (ic4 8) rf 79) 0 := by
  have z : ∀ j, j ≠ 5 → j ≠ 20 → j ≠ 30 → ∀ i, ic4 8 (0, j) i = 0 := fun j h1 h2 h3 i => by simp [ic4, ic3, ic2, ic1, h1, h2, h3]
  have hP : ∀ p, p < 8 → ∀ i, i ≠ 13 → ic4 8 (p + 1, 0) i = 0 := fun p hp i h => by simp [ic4, ic3, ic2, ic1, h]
  have h13 : ∀ p, p < 8 → ic4 8 (p + 1, 0) 13 = -1 := fun p hp => by simp [ic4, ic3, ic2, ic1, show p + 1 ≤ 8 by omega]
  have h30 : ∀ p, p < 8 → ic4 8 (0, 30) p = -1 := fun p hp => by simp [ic4, hp]
  have hz : (0 : Int64).toInt = 0 := by decide
  refine ⟨⟨rfl, rfl⟩, ⟨0, 0, ?_⟩, ⟨0, 0, 6, ⟨by omega, by omega⟩, ?_, fun _ => 0, fun p hp => ?_⟩, ?_⟩
  · refine ⟨by omega, by omega, rfl, rfl, rfl, rfl, ?_, fun j => ?_, ?_, fun j => ?_⟩
    · funext i
      exact (z 2 (by decide) (by decide) (by decide) i).trans (z 21 (by decide) (by decide) (by decide) i).symm
    · show byteOK (ic4 8 (0, 2) j)
      rw [z 2 (by decide) (by decide) (by decide) j]
      exact byteI 0 (by decide)
    · funext i
      exact (z 4 (by decide) (by decide) (by decide) i).trans (z 22 (by decide) (by decide) (by decide) i).symm
    · show byteOK (ic4 8 (0, 4) j)
      rw [z 4 (by decide) (by decide) (by decide) j]
      exact byteI 0 (by decide)
  · exact ⟨⟨rfl, rfl, rfl, rfl, rfl, rfl⟩, ⟨rfl, rfl, rfl, rfl, rfl, rfl⟩, fun _ => rfl, fun h => by omega, by omega, by omega⟩
  · show R1 _ 0 p 0
    refine ⟨⟨by omega, hP p hp 6 (by decide), z 29 (by decide) (by decide) (by decide) p⟩, ⟨rfl, rfl, rfl, rfl, ?_⟩, ⟨0, by omega, hP p hp 2 (by decide), z 25 (by decide) (by decide) (by decide) p⟩, ⟨0, by omega, hP p hp 3 (by decide), z 26 (by decide) (by decide) (by decide) p⟩, ⟨⟨?_, ?_⟩, ?_, ?_⟩, fun i hi => by omega, fun pl hpl => by omega, fun h => by omega⟩
    · exact (h13 p hp).trans (h30 p hp).symm
    · show 0 ≤ (0 : Int64).toInt
      omega
    · show (0 : Int64).toInt < _
      omega
    · show 0 ≤ (0 : Int64).toInt
      omega
    · show (0 : Int64).toInt < _
      omega
  · exact ⟨⟨rfl, rfl, rfl, rfl⟩, ⟨0, by omega, rfl, rfl⟩, rfl, rfl, rfl, rfl⟩
theorem g16 : Cond.classLink "TimeKeeperLaw" 8 "TimeKeeper" ∈ GW := gw_of 61 (by decide +kernel) (by decide +kernel)
theorem g17 : Cond.instantiable "TimeKeeper" 5 ∈ GW := gw_of 62 (by decide +kernel) (by decide +kernel)
theorem g752 : Cond.classLink "TimeKeeperLaw" 60 "TimeKeeperModel" ∈ GW := gw_of 797 (by decide +kernel) (by decide +kernel)
theorem g753 : Cond.instantiable "TimeKeeperModel" 38 ∈ GW := gw_of 798 (by decide +kernel) (by decide +kernel)
section BEG
variable {G : GG} {l : Launch}
theorem law_pm (hL : G.2.2.2.1 ≤ 6656) : ∃ M', PM G l m_LW_law [vR (some SK)] (nf (fun _ _ => 0) rf 0) (rI 1) M' 601024 7293034 := by
  obtain ⟨M', q⟩ := law_loop (G := G) (l := l) hL 512 0 (nf (ic4 8) rf 79) none none none rel0 (by omega) (by omega)
  refine ⟨M', ?_⟩
  refine pm_in [some (vR (some SK)), none, none, none, none, none, none, none] rfl ?_
  refine pw_mono (mc := 61 + (15 + (512 + 1) + 1) + 1) (ms := 628 + (440 + (6 * 512 + 1) + nfl 6) + nfl 0) (by decide) (by decide) ?_
  refine pw_new (ci := 0) (k := (0, 0)) d_LW_law_0 (by decide) g16 g17 g1 rfl (Nat.le_of_ble_eq_true rfl) rfl (by decide) ?_
  rw [nf_nw (fun _ => rfl)]
  refine pw_dup d_LW_law_3 rfl ?_
  refine c_LW_law_4 (Nat.le_of_ble_eq_true rfl) pm_TKinit ?_
  refine pw_astore_n d_LW_law_7 (by decide) ?_
  dsimp only [stL, kil, isL, cat]
  refine pw_new (ci := 6) (k := (0, 20)) d_LW_law_8 (by decide) g752 g753 g7 rfl (Nat.le_of_ble_eq_true rfl) rfl (by decide) ?_
  rw [nf_nw (fun j => by simp [ic2, ic1])]
  refine pw_dup d_LW_law_11 rfl ?_
  refine c_LW_law_12 (c1 := 15) (s1 := 440) (mc := 512 + 1) (ms := 6 * 512 + 1) ?_ pm_MOinit ?_
  · exact (Nat.le_of_ble_eq_true rfl)
  refine pw_astore_n d_LW_law_15 (by decide) ?_
  dsimp only [stL, kil, isL, cat]
  refine pw_iconst 1 d_LW_law_16 (by decide) ?_
  refine pw_newL (k := (0, 40)) d_LW_law_17 g146 (by decide) rfl (by decide) rfl (Nat.le_of_ble_eq_true rfl) rfl ?_
  rw [nf_nw0 (fun j => by simp [ic4, ic3, ic2, ic1]) (by funext j; rfl)]
  refine pw_astore_n d_LW_law_19 (by decide) ?_
  dsimp only [stL, kil, isL, cat]
  refine pw_iconst 0 d_LW_law_20 (by decide) ?_
  refine pw_istore d_LW_law_21 (by decide) ?_
  dsimp only [stL, kil, isL, cat]
  exact q
end BEG
