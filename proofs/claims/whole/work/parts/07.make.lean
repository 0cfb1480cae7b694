/-! returns, and cells that are made -/
section PT
variable {G : GG} {l : Launch} {mi : MI} {pc : Nat} {L : List (Option PV)} {st : List PV} {M M' : Mem} {o : PO} {mc ms : Nat}
theorem sbn_mono {s t : State} {Ls : List Loc} {k n k' n' : Nat} (h : s.sameButNew t Ls k n) (h1 : k ≤ k') (h2 : n ≤ n') : s.sameButNew t Ls k' n' := h.mono h1 h2
theorem pE_ret {B H : Heap} {below : List Frame} {s t : State} {args : Array Value} {ad : KK → Nat} {locs : List Loc} {cells slots : Nat} {v : Option PV} (hS : va_S (fun q => B.size ≤ q) B H locs) (hR : HR G B ad M H) (hv : ∀ w, v = some w → okv M w)
    (h : MQ below (fun _ _ out t => out = .returned (v.map (cv ad)) ∧ t.heap = H) args s cells slots (fun q => B.size ≤ q) t) : pE G B below s ad M.2.2.2 (.inl v) M (cells + mc) (slots + ms) t := by
  obtain ⟨out, h1, h2, ⟨h3, h4⟩, Ls, ⟨-, h5, h6⟩, h7⟩ := h
  exact ⟨out, ad, Ls, h1, h2, h5, sbn_mono h6 (Nat.le_add_right _ _) (Nat.le_add_right _ _), ⟨by rw [h4]; exact hS.1, by rw [h4]; exact hS.2.1, h7⟩, fun _ _ => rfl, Nat.le_refl _, by rw [h4]; exact hR, h3, hv⟩
theorem W_mono {p : Program} {e : Env} {R : Room} {s : State} {m : MethodId} {args : Array Value} {below : List Frame} {meth : Method} {c : Code} {H : Heap} {locs : List Loc} {cells slots : Nat} {Q Q' : State → Prop} {g : JFrame} (h : W p l e R s m args below meth c H locs cells slots Q g) (hq : ∀ t, Q t → Q' t) : W p l e R s m args below meth c H locs cells slots Q' g := by
  intro T hT X
  obtain ⟨t, h1, h2⟩ := h T hT X
  exact ⟨t, h1, hq t h2⟩
theorem pw_ireturn {x : Int32} (hd : decode (mB mi) pc = .ok (.ireturn, 1)) (ht : mT mi = some .int) (ho : o = rI x) (hM : M' = M) : PW G l mi pc L [vI x] M o M' mc ms := by
  subst ho; subst hM
  intro p e R s mid args below meth c B C H locs cells slots ls ad D
  refine W_mono (W.iret (v := x) (Qc := fun _ _ out t => out = .returned ((some (vI x)).map (cv ad)) ∧ t.heap = H) C.1 C.2.1 (C.2.2.2.1.trans ht) (fun t h1 _ => ⟨rfl, h1⟩) D.2.1.2.2 hd C.2.2.2.2.1) (fun t h => ?_)
  exact pE_ret D.2.1 D.2.2.1 (fun w hw => by cases hw; exact okI x) h
theorem pw_zreturn {x : Int32} (hd : decode (mB mi) pc = .ok (.ireturn, 1)) (ht : mT mi = some .boolean) (hx : x = 0 ∨ x = 1) (ho : o = rI x) (hM : M' = M) : PW G l mi pc L [vI x] M o M' mc ms := by
  subst ho; subst hM
  intro p e R s mid args below meth c B C H locs cells slots ls ad D
  refine W_mono (W.zret (v := x) (ty := .boolean) (Qc := fun _ _ out t => out = .returned ((some (vI x)).map (cv ad)) ∧ t.heap = H) C.1 C.2.1 (C.2.2.2.1.trans ht) (by rcases hx with rfl | rfl <;> rfl) (fun t h1 _ => ⟨rfl, h1⟩) D.2.1.2.2 hd C.2.2.2.2.1) (fun t h => ?_)
  exact pE_ret D.2.1 D.2.2.1 (fun w hw => by cases hw; exact okI x) h
theorem pw_lreturn {x : Int64} (hd : decode (mB mi) pc = .ok (.lreturn, 1)) (ht : mT mi = some .long) (ho : o = rL x) (hM : M' = M) : PW G l mi pc L [vL x] M o M' mc ms := by
  subst ho; subst hM
  intro p e R s mid args below meth c B C H locs cells slots ls ad D
  refine W_mono (W.lret (v := x) (Qc := fun _ _ out t => out = .returned ((some (vL x)).map (cv ad)) ∧ t.heap = H) C.1 C.2.1 (C.2.2.2.1.trans ht) (fun t h1 _ => ⟨rfl, h1⟩) D.2.1.2.2 hd C.2.2.2.2.1) (fun t h => ?_)
  exact pE_ret D.2.1 D.2.2.1 (fun w hw => by cases hw; exact okJ x) h
theorem pw_areturn {x : KK} {C0 : String} (hd : decode (mB mi) pc = .ok (.areturn, 1)) (ht : mT mi = some (.object C0)) (ho : o = rR (some x)) (hM : M' = M) : PW G l mi pc L [vR (some x)] M o M' mc ms := by
  subst ho; subst hM
  intro p e R s mid args below meth c B C H locs cells slots ls ad D
  refine W_mono (W.aret (v := .ref (ad x)) (rt := .object C0) (Qc := fun _ _ out t => out = .returned ((some (vR (some x))).map (cv ad)) ∧ t.heap = H) C.1 C.2.1 (C.2.2.2.1.trans ht) (Or.inl ⟨_, rfl⟩) (Or.inr ⟨_, rfl⟩) (fun t h1 _ => ⟨rfl, h1⟩) D.2.1.2.2 hd C.2.2.2.2.1) (fun t h => ?_)
  exact pE_ret D.2.1 D.2.2.1 (fun w hw => by cases hw; exact okh D.ok) h
theorem pw_return (hd : decode (mB mi) pc = .ok (.return_, 1)) (ht : mT mi = none) (ho : o = rV) (hM : M' = M) : PW G l mi pc L [] M o M' mc ms := by
  subst ho; subst hM
  intro p e R s mid args below meth c B C H locs cells slots ls ad D
  refine W_mono (W.vret (Qc := fun _ _ out t => out = .returned ((none : Option PV).map (cv ad)) ∧ t.heap = H) C.1 C.2.1 (C.2.2.2.1.trans ht) (fun t h1 _ => ⟨rfl, h1⟩) D.2.1.2.2 hd C.2.2.2.2.1) (fun t h => ?_)
  exact pE_ret D.2.1 D.2.2.1 (fun w hw => by cases hw) h
/-! making cells -/
def nw (M : Mem) (k : KK) : Mem := (fun q i => if q = k then 0 else M.1 q i, fun q i => if q = k then 0 else M.2.1 q i, fun q i => if q = k then none else M.2.2.1 q i, M.2.2.2 + 1)
def adU (ad : KK → Nat) (k : KK) (a : Nat) : KK → Nat := fun q => if q = k then a else ad q
theorem nk_new {n : Nat} {k : KK} (hk : nk M.2.2.2 = k) (h79 : M.2.2.2 < 79) (hn : n < M.2.2.2) : nk n ≠ k := fun q => by
  have := nk_inj n (by omega) M.2.2.2 h79 (q.trans hk.symm)
  omega
theorem al_ne {q k : KK} (hk : nk M.2.2.2 = k) (h79 : M.2.2.2 < 79) (ha : al M q) : q ≠ k := by
  obtain ⟨n, hn, e⟩ := ha
  rw [← e]
  exact nk_new hk h79 hn
theorem ok_ne {q k : KK} (hk : nk M.2.2.2 = k) (h79 : M.2.2.2 < 79) (h : q = SK ∨ al M q) : q ≠ k := h.elim (fun e z => nk_SK M.2.2.2 h79 (hk.trans (z.symm.trans e))) (al_ne hk h79)
theorem map_adU {ad : KK → Nat} {k : KK} {a : Nat} {r : Option KK} (h : ∀ k', r = some k' → k' ≠ k) : r.map (adU ad k a) = r.map ad := by
  cases r with
  | none => rfl
  | some k' => simp [adU, h k' rfl]
theorem cv_adU {ad : KK → Nat} {k : KK} {a : Nat} {v : PV} (h : ∀ k', v = vR (some k') → k' ≠ k) : cv (adU ad k a) v = cv ad v := by
  rcases v with x | x | r
  · rfl
  · rfl
  · show va_rf _ = va_rf _
    rw [map_adU (fun k' e => h k' (by rw [e]))]
theorem cE_new {ad : KK → Nat} {k q : KK} {a : Nat} (hq : q ≠ k) (hr : ∀ j k', M.2.2.1 q j = some k' → k' ≠ k) : cE G (adU ad k a) (nw M k) q = cE G ad M q := by
  have e1 : (nw M k).1 q = M.1 q := by funext i; simp [nw, hq]
  have e2 : (nw M k).2.1 q = M.2.1 q := by funext i; simp [nw, hq]
  have e3 : (nw M k).2.2.1 q = M.2.2.1 q := by funext i; simp [nw, hq]
  rw [cE_congr e1 e2 e3]
  have hm : ∀ j, (M.2.2.1 q j).map (adU ad k a) = (M.2.2.1 q j).map ad := fun j => map_adU (hr j)
  have hf : ∀ j t, fvl (adU ad k a) M q j t = fvl ad M q j t := by
    intro j t
    cases t <;> simp only [fvl, hm]
  unfold cE
  simp only [hf, hm]
theorem wl_new {B H : Heap} {ad : KK → Nat} {k : KK} {a : Nat} (hR : HR G B ad M H) (hk : nk M.2.2.2 = k) (h79 : M.2.2.2 < 79) : wl G (adU ad k a) (nw M k) = wl G ad M ++ [(a, cE G (adU ad k a) (nw M k) k)] := by
  unfold wl
  show (List.range (M.2.2.2 + 1)).map _ = _
  rw [List.range_succ, List.map_append]
  congr 1
  · refine List.map_congr_left fun n hn => ?_
    have hn := List.mem_range.mp hn
    have hne := nk_new hk h79 hn
    rw [cE_new hne (fun j k' q => al_ne hk h79 (hR.2.2.1 _ j k' ⟨n, hn, rfl⟩ q))]
    simp [adU, hne]
  · simp [hk, adU]
theorem al_nw {k q : KK} (ha : al M q) : al (nw M k) q := by
  obtain ⟨n, hn, e⟩ := ha
  exact ⟨n, Nat.lt_succ_of_lt hn, e⟩
theorem al_nwk {k : KK} (hk : nk M.2.2.2 = k) : al (nw M k) k := ⟨M.2.2.2, Nat.lt_succ_self _, hk⟩
theorem HR.new {B H H1 : Heap} {ad : KK → Nat} {k : KK} {a : Nat} {e : va_E} (hR : HR G B ad M H) (hk : nk M.2.2.2 = k) (h79 : M.2.2.2 < 79) (he : cE G (adU ad k a) (nw M k) k = e) (hP : va_P G.1 classes (wl G ad M ++ [(a, e)]) H1) (hD : va_D (fun q => B.size ≤ q) (wl G ad M ++ [(a, e)])) : HR G B (adU ad k a) (nw M k) H1 := by
  rw [← he, ← wl_new hR hk h79] at hP hD
  refine ⟨hP, hD, fun q j k' hq hk' => ?_, h79, by
    have hne : SK ≠ k := fun e => nk_SK M.2.2.2 h79 (hk.trans e.symm)
    simp only [adU, hne, if_false]
    exact hR.2.2.2.2⟩
  by_cases e : q = k
  · subst e; simp [nw] at hk'
  · have hq' : al M q := by
      obtain ⟨n, hn, e2⟩ := hq
      have hn : n < M.2.2.2 + 1 := hn
      rcases Nat.lt_or_ge n M.2.2.2 with h | h
      · exact ⟨n, h, e2⟩
      · have : n = M.2.2.2 := by omega
        subst this
        exact absurd (e2.symm.trans hk) e
    exact al_nw (hR.2.2.1 q j k' hq' (by simpa [nw, e] using hk'))
theorem pE_new {B : Heap} {below : List Frame} {s t : State} {ad : KK → Nat} {k : KK} {a x y : Nat} (hk : nk M.2.2.2 = k) (h79 : M.2.2.2 < 79) (h : pE G B below s (adU ad k a) (M.2.2.2 + 1) o M' x y t) : pE G B below s ad M.2.2.2 o M' x y t := by
  obtain ⟨out, ad', Ls, h1, h2, h3, h4, h5, h6, h7, h8, h9⟩ := h
  refine ⟨out, ad', Ls, h1, h2, h3, h4, h5, fun i hi => ?_, by omega, h8, h9⟩
  rw [h6 i (by omega)]
  simp [adU, nk_new hk h79 hi]
theorem DX.new {R : Room} {B H H1 : Heap} {locs : List Loc} {cells slots : Nat} {ls : Array Slot} {ad : KK → Nat} {k : KK} {a d : Nat} (D : DX G mi R B M L st (mc + 1) (ms + d) H locs cells slots ls ad) (hk : nk M.2.2.2 = k) (h79 : M.2.2.2 < 79) (hR : HR G B (adU ad k a) (nw M k) H1) (hS : va_S (fun q => B.size ≤ q) B H1 locs) : DX G mi R B (nw M k) L (vR (some k) :: st) mc ms H1 locs (cells + 1) (slots + d) ls (adU ad k a) := by
  obtain ⟨⟨d1, d1'⟩, d2, d3, d4, d5, d6⟩ := D
  refine ⟨⟨by omega, by omega⟩, hS, hR, ⟨d4.1, d4.2.1, fun i v hv => ?_⟩, fun i v hv k' e => (d5 i v hv k' e).imp id al_nw, okc (fun k' e => ?_) (fun v hv k' e => (d6 v hv k' e).imp id al_nw)⟩
  · rw [cv_adU (fun k' e => ok_ne hk h79 (d5 i v hv k' e))]
    exact d4.2.2 i v hv
  · have : k = k' := by simpa using e
    subst this
    exact Or.inr (al_nwk hk)
theorem map_new {ad : KK → Nat} {k : KK} {a : Nat} (hk : nk M.2.2.2 = k) (h79 : M.2.2.2 < 79) (h : ∀ v ∈ st, okv M v) : (vR (some k) :: st).map (cv (adU ad k a)) = .ref a :: st.map (cv ad) := by
  rw [List.map_cons]
  congr 1
  · show va_rf (some (adU ad k a k)) = _
    simp [adU, va_rf]
  · exact List.map_congr_left fun v hv => cv_adU (fun k' e => ok_ne hk h79 (h v hv k' e))
theorem fvl_nw {ad : KK → Nat} {k : KK} {j : Nat} {t : FieldType} : fvl ad (nw M k) k j t = (match t with | .long => .long 0 | .object _ => .null | .array _ => .null | _ => .int 0) := by
  cases t <;> simp [fvl, nw, va_rf]
/-- a type of field that our classes have -/
def okT : FieldType → Bool
  | .int => true | .long => true | .boolean => true | .object _ => true | .array _ => true | _ => false
theorem pw_new {idx ci : Nat} {k : KK} (hd : decode (mB mi) pc = .ok (.new idx, 3)) (h7 : ci < 7) (hw1 : Cond.classLink (mO mi) idx (cnm ci) ∈ GW) (hw2 : Cond.instantiable (cnm ci) (nfl ci) ∈ GW) (hw3 : Cond.initialized (cnm ci) ∈ GW) (hk : nk M.2.2.2 = k) (h79 : M.2.2.2 < 79) (hs : shp k = (0, ci)) (hok : (List.range (nfl ci)).all (fun j => okT (fty ci j)) = true)
    (h : PW G l mi (pc + 3) L (vR (some k) :: st) (nw M k) o M' mc ms) : PW G l mi pc L st M o M' (mc + 1) (ms + nfl ci) := by
  intro p e R s mid args below meth c B C H locs cells slots ls ad D
  have hT := C.2.2.2.2.2.2.2.2.1
  have hD1 := D.1
  refine va_new C.1 C.2.1 (hT.hts args) (cls_in ci h7) (fty ci) (cls_ty ci h7) C.2.2.2.2.2.2.1 (hT.hts args _ hw1) (hT.hts args _ hw2) (hT.hts args _ hw3) hT.2.2.1 D.2.2.1.1 D.2.2.1.2.1 D.2.1 (fun _ q => q) (cls_at ci h7) (fs := (List.range (nfl ci)).map (fun j => fvl ad (nw M k) k j (fty ci j))) (fun j hj => ?_) (by omega) (by omega) hd (fun q H1 hP hD hS => ?_)
  · have h1 := List.all_eq_true.mp hok j (List.mem_range.mpr hj)
    simp only [vp_V, List.getD_eq_getElem?_getD, List.getElem?_map, List.getElem?_range hj, Option.map_some, Option.getD_some, fvl_nw]
    cases hq : fty ci j <;> rw [hq] at h1 <;> first | rfl | (simp [okT] at h1)
  · have hR : HR G B (adU ad k q) (nw M k) H1 := HR.new D.2.2.1 hk h79 (by
      simp only [cE, hs]
      congr 2
      refine List.map_congr_left fun j _ => ?_
      rw [fvl_nw, fvl_nw]) hP hD
    have hx := h p e R s mid args below meth c B C H1 locs (cells + 1) (slots + nfl ci) ls (adU ad k q) (D.new hk h79 hR hS)
    rw [map_new hk h79 D.ok] at hx
    refine W_mono hx fun t ht => ?_
    have e1 : cells + 1 + mc = cells + (mc + 1) := by omega
    have e2 : slots + nfl ci + ms = slots + (ms + nfl ci) := by omega
    rw [e1, e2] at ht
    exact pE_new hk h79 ht
theorem pw_newI {k : KK} {n : Int32} {z : Nat} (hd : decode (mB mi) pc = .ok (.newarray .int, 2)) (hw : Cond.arrayClass .int ∈ GW) (hn : ¬ n < 0) (hz : n.toNatClampNeg = z) (hb : z * 4 ≤ 536870912) (hk : nk M.2.2.2 = k) (h79 : M.2.2.2 < 79) (hs : shp k = (1, z))
    (h : PW G l mi (pc + 2) L (vR (some k) :: st) (nw M k) o M' mc ms) : PW G l mi pc L (vI n :: st) M o M' (mc + 1) (ms + z) := by
  intro p e R s mid args below meth c B C H locs cells slots ls ad D
  have hT := C.2.2.2.2.2.2.2.2.1
  have hD1 := D.1
  refine va_newa (atype := .int) (ty := .int) (a0 := (z, .inl (fun _ => 0))) C.1 C.2.1 (hT.hts args _ hw) rfl hT.2.2.1 D.2.2.1.1 D.2.2.1.2.1 D.2.1 (fun _ q => q) (fun cA => rfl) hn hz hb (by omega) (by omega) hd (fun q cA H1 hK hP hD hS => ?_)
  have hA : cA = G.2.1 0 := Option.some.inj ((show s.vm.findClass _ = some cA from (hK.2 3 (cA, .int) rfl).2).symm.trans (hT.2.2.1.2 0 (G.2.1 0, .int) rfl).2)
  subst hA
  have hR : HR G B (adU ad k q) (nw M k) H1 := HR.new D.2.2.1 hk h79 (by
    simp only [cE, hs]
    congr 4
    funext j
    simp [nw]) hP hD
  have hx := h p e R s mid args below meth c B C H1 locs (cells + 1) (slots + z) ls (adU ad k q) ((D.stk (okt D.ok)).new hk h79 hR hS)
  rw [map_new hk h79 (okt D.ok)] at hx
  refine W_mono hx fun t ht => ?_
  have e1 : cells + 1 + mc = cells + (mc + 1) := by omega
  have e2 : slots + z + ms = slots + (ms + z) := by omega
  rw [e1, e2] at ht
  exact pE_new hk h79 ht
theorem pw_newL {k : KK} {n : Int32} {z : Nat} (hd : decode (mB mi) pc = .ok (.newarray .long, 2)) (hw : Cond.arrayClass .long ∈ GW) (hn : ¬ n < 0) (hz : n.toNatClampNeg = z) (hb : z * 8 ≤ 536870912) (hk : nk M.2.2.2 = k) (h79 : M.2.2.2 < 79) (hs : shp k = (2, z))
    (h : PW G l mi (pc + 2) L (vR (some k) :: st) (nw M k) o M' mc ms) : PW G l mi pc L (vI n :: st) M o M' (mc + 1) (ms + z) := by
  intro p e R s mid args below meth c B C H locs cells slots ls ad D
  have hT := C.2.2.2.2.2.2.2.2.1
  have hD1 := D.1
  refine va_newa (atype := .long) (ty := .long) (a0 := (z, .inr (.inl (fun _ => 0)))) C.1 C.2.1 (hT.hts args _ hw) rfl hT.2.2.1 D.2.2.1.1 D.2.2.1.2.1 D.2.1 (fun _ q => q) (fun cA => rfl) hn hz hb (by omega) (by omega) hd (fun q cA H1 hK hP hD hS => ?_)
  have hA : cA = G.2.1 1 := Option.some.inj ((show s.vm.findClass _ = some cA from (hK.2 3 (cA, .long) rfl).2).symm.trans (hT.2.2.1.2 1 (G.2.1 1, .long) rfl).2)
  subst hA
  have hR : HR G B (adU ad k q) (nw M k) H1 := HR.new D.2.2.1 hk h79 (by
    simp only [cE, hs]
    congr 5
    funext j
    simp [nw]) hP hD
  have hx := h p e R s mid args below meth c B C H1 locs (cells + 1) (slots + z) ls (adU ad k q) ((D.stk (okt D.ok)).new hk h79 hR hS)
  rw [map_new hk h79 (okt D.ok)] at hx
  refine W_mono hx fun t ht => ?_
  have e1 : cells + 1 + mc = cells + (mc + 1) := by omega
  have e2 : slots + z + ms = slots + (ms + z) := by omega
  rw [e1, e2] at ht
  exact pE_new hk h79 ht
theorem pw_newR {idx : Nat} {k : KK} {n : Int32} {z : Nat} (hd : decode (mB mi) pc = .ok (.anewarray idx, 3)) (hw : Cond.classLink (mO mi) idx "TimeKeeper$Peer" ∈ GW) (ho : ∀ s, TB G s → va_AO "TimeKeeper$Peer" s) (hn : ¬ n < 0) (hz : n.toNatClampNeg = z) (hb : z * 4 ≤ 536870912) (hk : nk M.2.2.2 = k) (h79 : M.2.2.2 < 79) (hs : shp k = (3, z))
    (h : PW G l mi (pc + 3) L (vR (some k) :: st) (nw M k) o M' mc ms) : PW G l mi pc L (vI n :: st) M o M' (mc + 1) (ms + z) := by
  intro p e R s mid args below meth c B C H locs cells slots ls ad D
  have hT := C.2.2.2.2.2.2.2.2.1
  have hD1 := D.1
  refine va_newq C.1 C.2.1 C.2.2.2.2.2.2.1 (hT.hts args _ hw) (ho s hT) hT.2.2.1 D.2.2.1.1 D.2.2.1.2.1 D.2.1 (fun _ q => q) hn hz hb (by omega) (by omega) hd (fun q cA H1 hK hP hD hS => ?_)
  have hA : cA = G.2.1 2 := by
    obtain ⟨kA, comp, -, -, -, f4⟩ := (hK.2 3 (cA, .object "TimeKeeper$Peer") rfl).2
    obtain ⟨kA2, comp2, -, -, -, g4⟩ := (hK.2 2 (G.2.1 2, .object "TimeKeeper$Peer") rfl).2
    exact Option.some.inj (f4.symm.trans g4)
  subst hA
  have hR : HR G B (adU ad k q) (nw M k) H1 := HR.new D.2.2.1 hk h79 (by
    simp only [cE, hs]
    congr 7
    funext j
    simp [nw]) hP hD
  have hx := h p e R s mid args below meth c B C H1 locs (cells + 1) (slots + z) ls (adU ad k q) ((D.stk (okt D.ok)).new hk h79 hR hS)
  rw [map_new hk h79 (okt D.ok)] at hx
  refine W_mono hx fun t ht => ?_
  have e1 : cells + 1 + mc = cells + (mc + 1) := by omega
  have e2 : slots + z + ms = slots + (ms + z) := by omega
  rw [e1, e2] at ht
  exact pE_new hk h79 ht
end PT
