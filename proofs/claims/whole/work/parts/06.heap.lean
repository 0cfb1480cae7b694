/-! rows that read and write the heap -/
section PH
variable {G : GG} {l : Launch} {mi : MI} {pc : Nat} {L : List (Option PV)} {st : List PV} {M M' : Mem} {o : PO} {mc ms : Nat}
/-- a place of a pool is the field j of the class ci -/
def FL (own : String) (idx ci j : Nat) : Prop := ci < 7 ∧ j < nfl ci ∧ Cond.fieldLink own idx (cT ci j).1 (cT ci j).2.1 (cT ci j).2.2.1 ∈ GW
theorem TB.hts {G : GG} {s : State} (h : TB G s) (args : Array Value) : ∀ w ∈ GW, w.before args s = true := fun w hw => word_at (State.WarmedH.refl s) (good_of_word (List.mem_filter.mp hw).2) (h.1 w hw)
theorem al_of {k : KK} (h : okv M (vR (some k))) (hk : (shp k).1 ≠ 9) : al M k := (h k rfl).resolve_left (fun e => hk (by rw [e]; rfl))
theorem HR.obj {B : Heap} {ad : KK → Nat} {H : Heap} {k : KK} {ci : Nat} (hs : shp k = (0, ci)) (ha : al M k) : ∃ n, n < M.2.2.2 ∧ nk n = k ∧ (wl G ad M)[n]? = some (ad k, .inr (ci, (List.range (nfl ci)).map (fun j => fvl ad M k j (fty ci j)))) := by
  obtain ⟨n, hn, hk⟩ := ha
  refine ⟨n, hn, hk, ?_⟩
  rw [wl_at hn, hk]
  simp only [cE, hs]
theorem HR.arI {B : Heap} {ad : KK → Nat} {H : Heap} {k : KK} {z : Nat} (hs : shp k = (1, z)) (ha : al M k) : ∃ n, n < M.2.2.2 ∧ nk n = k ∧ (wl G ad M)[n]? = some (ad k, .inl (G.2.1 0, z, .inl (M.1 k))) := by
  obtain ⟨n, hn, hk⟩ := ha
  refine ⟨n, hn, hk, ?_⟩
  rw [wl_at hn, hk]
  simp only [cE, hs]
theorem HR.arL {B : Heap} {ad : KK → Nat} {H : Heap} {k : KK} {z : Nat} (hs : shp k = (2, z)) (ha : al M k) : ∃ n, n < M.2.2.2 ∧ nk n = k ∧ (wl G ad M)[n]? = some (ad k, .inl (G.2.1 1, z, .inr (.inl (M.2.1 k)))) := by
  obtain ⟨n, hn, hk⟩ := ha
  refine ⟨n, hn, hk, ?_⟩
  rw [wl_at hn, hk]
  simp only [cE, hs]
theorem HR.arR {B : Heap} {ad : KK → Nat} {H : Heap} {k : KK} {z : Nat} (hs : shp k = (3, z)) (ha : al M k) : ∃ n, n < M.2.2.2 ∧ nk n = k ∧ (wl G ad M)[n]? = some (ad k, .inl (G.2.1 2, z, .inr (.inr (.inr (.inr (fun j => (M.2.2.1 k j).map ad)))))) := by
  obtain ⟨n, hn, hk⟩ := ha
  refine ⟨n, hn, hk, ?_⟩
  rw [wl_at hn, hk]
  simp only [cE, hs]
theorem DX.alh {R : Room} {B : Heap} {H : Heap} {locs : List Loc} {cells slots : Nat} {ls : Array Slot} {ad : KK → Nat} {k : KK} (D : DX G mi R B M L (vR (some k) :: st) mc ms H locs cells slots ls ad) (hk : (shp k).1 ≠ 9) : al M k := al_of (okh D.ok) hk
/-- getfield of any type -/
theorem pw_get {idx ci j : Nat} {k : KK} {v : PV} (hd : decode (mB mi) pc = .ok (.getfield idx, 3)) (hf : FL (mO mi) idx ci j) (hs : shp k = (0, ci)) (hv : ∀ ad, cv ad v = fvl ad M k j (fty ci j)) (hok : ∀ k', v = vR (some k') → M.2.2.1 k j = some k')
    (h : PW G l mi (pc + 3) L (v :: st) M o M' mc ms) : PW G l mi pc L (vR (some k) :: st) M o M' mc ms := by
  intro p e R s mid args below meth c B C H locs cells slots ls ad D
  obtain ⟨n, hn, hk, hat⟩ := HR.obj (G := G) (B := B) (H := H) (ad := ad) hs (D.alh (by rw [hs]; simp))
  obtain ⟨h1, h2, h3⟩ := hf
  have hT := C.2.2.2.2.2.2.2.2.1
  refine va_get C.1 C.2.1 (hT.hts args) (cls_in ci h1) C.2.2.2.2.2.2.1 hT.2.2.1 D.2.2.1.1 n hat (cls_at ci h1) j h2 (hT.hts args _ h3) (fun _ q => q) (v := cv ad v) ?_ hd (h p e R s mid args below meth c B C H locs cells slots ls ad (D.stk (okc (fun k' e' => Or.inr (D.2.2.1.2.2.1 k j k' (D.alh (by rw [hs]; simp)) (hok k' e'))) (okt D.ok))))
  rw [hv ad]
  simp [h2]
theorem pw_getI {idx ci j : Nat} {k : KK} (hd : decode (mB mi) pc = .ok (.getfield idx, 3)) (hf : FL (mO mi) idx ci j) (hs : shp k = (0, ci)) (ht : fty ci j = .int)
    (h : PW G l mi (pc + 3) L (vI (M.1 k j) :: st) M o M' mc ms) : PW G l mi pc L (vR (some k) :: st) M o M' mc ms :=
  pw_get hd hf hs (fun ad => by rw [ht]; rfl) (fun _ q => by cases q) h
theorem pw_getZ {idx ci j : Nat} {k : KK} (hd : decode (mB mi) pc = .ok (.getfield idx, 3)) (hf : FL (mO mi) idx ci j) (hs : shp k = (0, ci)) (ht : fty ci j = .boolean)
    (h : PW G l mi (pc + 3) L (vI (M.1 k j) :: st) M o M' mc ms) : PW G l mi pc L (vR (some k) :: st) M o M' mc ms :=
  pw_get hd hf hs (fun ad => by rw [ht]; rfl) (fun _ q => by cases q) h
theorem pw_getL {idx ci j : Nat} {k : KK} (hd : decode (mB mi) pc = .ok (.getfield idx, 3)) (hf : FL (mO mi) idx ci j) (hs : shp k = (0, ci)) (ht : fty ci j = .long)
    (h : PW G l mi (pc + 3) L (vL (M.2.1 k j) :: st) M o M' mc ms) : PW G l mi pc L (vR (some k) :: st) M o M' mc ms :=
  pw_get hd hf hs (fun ad => by rw [ht]; rfl) (fun _ q => by cases q) h
def isRT : FieldType → Bool
  | .object _ => true
  | .array _ => true
  | _ => false
theorem pw_getR {idx ci j : Nat} {k : KK} {r : Option KK} (hd : decode (mB mi) pc = .ok (.getfield idx, 3)) (hf : FL (mO mi) idx ci j) (hs : shp k = (0, ci)) (ht : isRT (fty ci j) = true) (hr : M.2.2.1 k j = r)
    (h : PW G l mi (pc + 3) L (vR r :: st) M o M' mc ms) : PW G l mi pc L (vR (some k) :: st) M o M' mc ms := by
  subst hr
  refine pw_get hd hf hs (fun ad => ?_) (fun k' q => by simpa using q) h
  cases hq : fty ci j <;> rw [hq] at ht <;> first | rfl | (simp [isRT] at ht)
theorem HR.put {B H H1 : Heap} {ad : KK → Nat} {M2 : Mem} {n : Nat} {e : va_E} (hR : HR G B ad M H) (hn : n < M.2.2.2) (hM : M1 (nk n) M M2) (he : cE G ad M2 (nk n) = e) (hr : ∀ j k', M2.2.2.1 (nk n) j = some k' → al M k')
    (hP : va_P G.1 classes ((wl G ad M).set n (ad (nk n), e)) H1) (hD : va_D (fun q => B.size ≤ q) ((wl G ad M).set n (ad (nk n), e))) : HR G B ad M2 H1 := by
  have h79 := hR.2.2.2.1
  rw [← he, wl_set hn h79 hM] at hP hD
  refine ⟨hP, hD, fun k j k' ha hk => ?_, by rw [hM.1]; exact h79, hR.2.2.2.2⟩
  rw [al_M1 hM] at ha ⊢
  by_cases q : k = nk n
  · subst q; exact hr j k' hk
  · rw [(hM.2 k q).2.2] at hk
    exact hR.2.2.1 k j k' ha hk
theorem DX.put {R : Room} {B H H1 : Heap} {locs locs1 : List Loc} {cells slots : Nat} {ls : Array Slot} {ad : KK → Nat} {M2 : Mem} {k : KK} {st' : List PV} (D : DX G mi R B M L st mc ms H locs cells slots ls ad) (hM : M1 k M M2) (hR : HR G B ad M2 H1) (hS : va_S (fun q => B.size ≤ q) B H1 locs1) (h : ∀ v ∈ st', okv M v) : DX G mi R B M2 L st' mc ms H1 locs1 cells slots ls ad :=
  ⟨D.1, hS, hR, D.2.2.2.1, fun i v q => okv_M1 hM (D.2.2.2.2.1 i v q), fun v q => okv_M1 hM (h v q)⟩
/-- what a class's cell looks like when one field changes -/
theorem cE_setI {ad : KK → Nat} {k : KK} {ci j : Nat} {x : Int32} (hs : shp k = (0, ci)) (hj : j < nfl ci) (ht : fvl ad (sI M k j x) k j (fty ci j) = .int x) (hoth : ∀ i t, i ≠ j → fvl ad (sI M k j x) k i t = fvl ad M k i t) : cE G ad (sI M k j x) k = .inr (ci, ((List.range (nfl ci)).map (fun j => fvl ad M k j (fty ci j))).set j (.int x)) := by
  simp only [cE, hs]
  congr 2
  apply List.ext_getElem?
  intro i
  rw [List.getElem?_set]
  by_cases e : j = i
  · subst e
    simp [hj, ht]
  · rw [if_neg e]
    by_cases hi : i < nfl ci
    · simp [hi, hoth i _ (fun q => e q.symm)]
    · simp [hi]
theorem fvl_sI {ad : KK → Nat} {k : KK} {j : Nat} {x : Int32} : ∀ i t, i ≠ j → fvl ad (sI M k j x) k i t = fvl ad M k i t := by
  intro i t hi
  cases t <;> simp [fvl, sI, hi]
theorem fvl_sL {ad : KK → Nat} {k : KK} {j : Nat} {x : Int64} : ∀ i t, i ≠ j → fvl ad (sL M k j x) k i t = fvl ad M k i t := by
  intro i t hi
  cases t <;> simp [fvl, sL, hi]
theorem fvl_sR {ad : KK → Nat} {k : KK} {j : Nat} {x : Option KK} : ∀ i t, i ≠ j → fvl ad (sR M k j x) k i t = fvl ad M k i t := by
  intro i t hi
  cases t <;> simp [fvl, sR, hi]
theorem cE_set {ad : KK → Nat} {M2 : Mem} {k : KK} {ci j : Nat} {v : Value} (hs : shp k = (0, ci)) (hj : j < nfl ci) (ht : fvl ad M2 k j (fty ci j) = v) (hoth : ∀ i t, i ≠ j → fvl ad M2 k i t = fvl ad M k i t) : cE G ad M2 k = .inr (ci, ((List.range (nfl ci)).map (fun j => fvl ad M k j (fty ci j))).set j v) := by
  simp only [cE, hs]
  congr 2
  apply List.ext_getElem?
  intro i
  rw [List.getElem?_set]
  by_cases e : j = i
  · subst e
    simp [hj, ht]
  · rw [if_neg e]
    by_cases hi : i < nfl ci
    · simp [hi, hoth i _ (fun q => e q.symm)]
    · simp [hi]
/-- putfield of any type, not final -/
theorem pw_put {idx ci j : Nat} {k : KK} {v : PV} {M2 : Mem} (hd : decode (mB mi) pc = .ok (.putfield idx, 3)) (hf : FL (mO mi) idx ci j) (hs : shp k = (0, ci)) (hfin : (cT ci j).2.2.2 = false) (hM : M1 k M M2) (hoth : ∀ ad i t, i ≠ j → fvl ad M2 k i t = fvl ad M k i t) (hv : ∀ ad, fvl ad M2 k j (fty ci j) = cv ad v) (hnar : ∀ ad, narrow (fty ci j) (cv ad v) = cv ad v) (hfit : ∀ ad, fits (fty ci j) (cv ad v) = true)
    (hr : ∀ i k', M2.2.2.1 k i = some k' → M.2.2.1 k i = some k')
    (h : PW G l mi (pc + 3) L st M2 o M' mc ms) : PW G l mi pc L (v :: vR (some k) :: st) M o M' mc ms := by
  intro p e R s mid args below meth c B C H locs cells slots ls ad D
  have hal : al M k := al_of (okh (okt D.ok)) (by rw [hs]; simp)
  obtain ⟨n, hn, hk, hat⟩ := HR.obj (G := G) (B := B) (H := H) (ad := ad) hs hal
  obtain ⟨h1, h2, h3⟩ := hf
  have hT := C.2.2.2.2.2.2.2.2.1
  refine va_put C.1 C.2.1 (hT.hts args) (cls_in ci h1) (fty ci) (cls_ty ci h1) (cls_nm ci h1) C.2.2.2.2.2.2.1 hT.2.2.1 D.2.2.1.1 D.2.2.1.2.1 D.2.1 n hat (cls_at ci h1) j h2 (hT.hts args _ h3) (fun _ q => q) hfin (cls_ty ci h1 j h2) (hnar ad) (hfit ad) (by simp [h2]) hd (fun H1 locs1 hP hD hS => ?_)
  subst hk
  have hR := HR.put D.2.2.1 hn hM (cE_set hs h2 (hv ad) (hoth ad)) (fun i k' q => D.2.2.1.2.2.1 _ i k' hal (hr i k' q)) hP hD
  have hx := h p e R s mid args below meth c B C H1 locs1 cells slots ls ad (D.put hM hR hS (okt (okt D.ok)))
  rw [hM.1] at hx
  exact hx
theorem pw_putI {idx ci j : Nat} {k : KK} {x : Int32} (hd : decode (mB mi) pc = .ok (.putfield idx, 3)) (hf : FL (mO mi) idx ci j) (hs : shp k = (0, ci)) (hfin : (cT ci j).2.2.2 = false) (ht : fty ci j = .int)
    (h : PW G l mi (pc + 3) L st (sI M k j x) o M' mc ms) : PW G l mi pc L (vI x :: vR (some k) :: st) M o M' mc ms :=
  pw_put hd hf hs hfin (M1_sI M k j x) (fun ad => fvl_sI) (fun ad => by rw [ht]; simp [fvl, sI, cv]) (fun ad => by rw [ht]; rfl) (fun ad => by rw [ht]; rfl) (fun i k' q => q) h
theorem pw_putZ {idx ci j : Nat} {k : KK} {x : Int32} (hd : decode (mB mi) pc = .ok (.putfield idx, 3)) (hf : FL (mO mi) idx ci j) (hs : shp k = (0, ci)) (hfin : (cT ci j).2.2.2 = false) (ht : fty ci j = .boolean) (hx : x = 0 ∨ x = 1)
    (h : PW G l mi (pc + 3) L st (sI M k j x) o M' mc ms) : PW G l mi pc L (vI x :: vR (some k) :: st) M o M' mc ms :=
  pw_put hd hf hs hfin (M1_sI M k j x) (fun ad => fvl_sI) (fun ad => by rw [ht]; simp [fvl, sI, cv]) (fun ad => by rw [ht]; rcases hx with rfl | rfl <;> rfl) (fun ad => by rw [ht]; rcases hx with rfl | rfl <;> rfl) (fun i k' q => q) h
theorem pw_putL {idx ci j : Nat} {k : KK} {x : Int64} (hd : decode (mB mi) pc = .ok (.putfield idx, 3)) (hf : FL (mO mi) idx ci j) (hs : shp k = (0, ci)) (hfin : (cT ci j).2.2.2 = false) (ht : fty ci j = .long)
    (h : PW G l mi (pc + 3) L st (sL M k j x) o M' mc ms) : PW G l mi pc L (vL x :: vR (some k) :: st) M o M' mc ms :=
  pw_put hd hf hs hfin (M1_sL M k j x) (fun ad => fvl_sL) (fun ad => by rw [ht]; simp [fvl, sL, cv]) (fun ad => by rw [ht]; rfl) (fun ad => by rw [ht]; rfl) (fun i k' q => q) h
/-- a final field, in its class's own constructor -/
theorem pw_putF {idx ci j : Nat} {k q : KK} (hd : decode (mB mi) pc = .ok (.putfield idx, 3)) (hf : FL (mO mi) idx ci j) (hs : shp k = (0, ci)) (hfin : (cT ci j).2.2.2 = true) (hown : (cT ci j).1 = mO mi) (hin : (mY mi).name = "<init>") (ht : isRT (fty ci j) = true) (hqs : (shp q).1 ≠ 9)
    (h : PW G l mi (pc + 3) L st (sR M k j (some q)) o M' mc ms) : PW G l mi pc L (vR (some q) :: vR (some k) :: st) M o M' mc ms := by
  intro p e R s mid args below meth c B C H locs cells slots ls ad D
  have hal : al M k := al_of (okh (okt D.ok)) (by rw [hs]; simp)
  obtain ⟨n, hn, hk, hat⟩ := HR.obj (G := G) (B := B) (H := H) (ad := ad) hs hal
  obtain ⟨h1, h2, h3⟩ := hf
  have hT := C.2.2.2.2.2.2.2.2.1
  have hqa : al M q := al_of (okh D.ok) hqs
  have hv : fvl ad (sR M k j (some q)) k j (fty ci j) = cv ad (vR (some q)) := by cases hq : fty ci j <;> rw [hq] at ht <;> first | (simp [fvl, sR, cv]; done) | (simp [isRT] at ht)
  have hnar : narrow (fty ci j) (cv ad (vR (some q))) = cv ad (vR (some q)) := by cases hq : fty ci j <;> rw [hq] at ht <;> first | rfl | (simp [isRT] at ht)
  have hfit : fits (fty ci j) (cv ad (vR (some q))) = true := by cases hq : fty ci j <;> rw [hq] at ht <;> first | rfl | (simp [isRT] at ht)
  refine va_putF C.1 C.2.1 (hT.hts args) (cls_in ci h1) (fty ci) (cls_ty ci h1) (cls_nm ci h1) C.2.2.2.2.2.2.1 hT.2.2.1 D.2.2.1.1 D.2.2.1.2.1 D.2.1 n hat (cls_at ci h1) j h2 (hT.hts args _ h3) (fun _ q => q) hfin (by rw [C.2.2.2.2.2.2.2.1]; exact hin) hown (cls_ty ci h1 j h2) hnar hfit (by simp [h2]) hd (fun H1 locs1 hP hD hS => ?_)
  subst hk
  have hR := HR.put D.2.2.1 hn (M1_sR M _ j (some q)) (cE_set hs h2 hv fvl_sR) (fun i k' z => by
    by_cases e : i = j
    · subst e
      have : q = k' := by simpa [sR] using z
      subst this
      exact hqa
    · exact D.2.2.1.2.2.1 _ i k' hal (by simpa [sR, e] using z)) hP hD
  exact h p e R s mid args below meth c B C H1 locs1 cells slots ls ad (D.put (M1_sR M _ j (some q)) hR hS (okt (okt D.ok)))
/-! arrays -/
theorem pw_iaload {k : KK} {z : Nat} {i : Int32} (hd : decode (mB mi) pc = .ok (.iaload, 1)) (hs : shp k = (1, z)) (hin : vp_in i z)
    (h : PW G l mi (pc + 1) L (vI (M.1 k i.toNatClampNeg) :: st) M o M' mc ms) : PW G l mi pc L (vI i :: vR (some k) :: st) M o M' mc ms := by
  intro p e R s mid args below meth c B C H locs cells slots ls ad D
  obtain ⟨n, hn, hk, hat⟩ := HR.arI (G := G) (B := B) (H := H) (ad := ad) hs (al_of (okh (okt D.ok)) (by rw [hs]; simp))
  exact va_iald C.1 C.2.1 C.2.2.2.2.2.2.2.2.1.2.2.1 D.2.2.1.1 n 0 hat rfl hin hd (h p e R s mid args below meth c B C H locs cells slots ls ad (D.stk (okc (okI _) (okt (okt D.ok)))))
theorem pw_laload {k : KK} {z : Nat} {i : Int32} (hd : decode (mB mi) pc = .ok (.laload, 1)) (hs : shp k = (2, z)) (hin : vp_in i z)
    (h : PW G l mi (pc + 1) L (vL (M.2.1 k i.toNatClampNeg) :: st) M o M' mc ms) : PW G l mi pc L (vI i :: vR (some k) :: st) M o M' mc ms := by
  intro p e R s mid args below meth c B C H locs cells slots ls ad D
  obtain ⟨n, hn, hk, hat⟩ := HR.arL (G := G) (B := B) (H := H) (ad := ad) hs (al_of (okh (okt D.ok)) (by rw [hs]; simp))
  exact va_lald C.1 C.2.1 C.2.2.2.2.2.2.2.2.1.2.2.1 D.2.2.1.1 n 1 hat rfl hin hd (h p e R s mid args below meth c B C H locs cells slots ls ad (D.stk (okc (okJ _) (okt (okt D.ok)))))
theorem pw_aaload {k : KK} {z : Nat} {i : Int32} {r : Option KK} (hd : decode (mB mi) pc = .ok (.aaload, 1)) (hs : shp k = (3, z)) (hin : vp_in i z) (hr : M.2.2.1 k i.toNatClampNeg = r)
    (h : PW G l mi (pc + 1) L (vR r :: st) M o M' mc ms) : PW G l mi pc L (vI i :: vR (some k) :: st) M o M' mc ms := by
  subst hr
  intro p e R s mid args below meth c B C H locs cells slots ls ad D
  have hal : al M k := al_of (okh (okt D.ok)) (by rw [hs]; simp)
  obtain ⟨n, hn, hk, hat⟩ := HR.arR (G := G) (B := B) (H := H) (ad := ad) hs hal
  exact va_aldq C.1 C.2.1 C.2.2.2.2.2.2.2.2.1.2.2.1 D.2.2.1.1 n 2 hat rfl hin hd (h p e R s mid args below meth c B C H locs cells slots ls ad (D.stk (okc (fun k' q => Or.inr (D.2.2.1.2.2.1 k _ k' hal (by simpa using q))) (okt (okt D.ok)))))
theorem pw_iastore {k : KK} {z : Nat} {i x : Int32} (hd : decode (mB mi) pc = .ok (.iastore, 1)) (hs : shp k = (1, z)) (hin : vp_in i z)
    (h : PW G l mi (pc + 1) L st (sI M k i.toNatClampNeg x) o M' mc ms) : PW G l mi pc L (vI x :: vI i :: vR (some k) :: st) M o M' mc ms := by
  intro p e R s mid args below meth c B C H locs cells slots ls ad D
  have hal : al M k := al_of (okh (okt (okt D.ok))) (by rw [hs]; simp)
  obtain ⟨n, hn, hk, hat⟩ := HR.arI (G := G) (B := B) (H := H) (ad := ad) hs hal
  refine va_iast C.1 C.2.1 C.2.2.2.2.2.2.2.2.1.2.2.1 D.2.2.1.1 D.2.2.1.2.1 D.2.1 n 0 hat rfl hin hd (fun H1 locs1 hP hD hS => ?_)
  subst hk
  have hR := HR.put D.2.2.1 hn (M1_sI M _ i.toNatClampNeg x) (e := .inl (G.2.1 0, z, .inl (upd (M.1 (nk n)) i.toNatClampNeg x))) (by
    simp only [cE, hs]
    congr 4
    funext q
    simp [sI, upd]) (fun j k' q => D.2.2.1.2.2.1 _ j k' hal q) hP hD
  exact h p e R s mid args below meth c B C H1 locs1 cells slots ls ad (D.put (M1_sI M _ _ x) hR hS (okt (okt (okt D.ok))))
theorem pw_lastore {k : KK} {z : Nat} {i : Int32} {x : Int64} (hd : decode (mB mi) pc = .ok (.lastore, 1)) (hs : shp k = (2, z)) (hin : vp_in i z)
    (h : PW G l mi (pc + 1) L st (sL M k i.toNatClampNeg x) o M' mc ms) : PW G l mi pc L (vL x :: vI i :: vR (some k) :: st) M o M' mc ms := by
  intro p e R s mid args below meth c B C H locs cells slots ls ad D
  have hal : al M k := al_of (okh (okt (okt D.ok))) (by rw [hs]; simp)
  obtain ⟨n, hn, hk, hat⟩ := HR.arL (G := G) (B := B) (H := H) (ad := ad) hs hal
  refine va_last C.1 C.2.1 C.2.2.2.2.2.2.2.2.1.2.2.1 D.2.2.1.1 D.2.2.1.2.1 D.2.1 n 1 hat rfl hin hd (fun H1 locs1 hP hD hS => ?_)
  subst hk
  have hR := HR.put D.2.2.1 hn (M1_sL M _ i.toNatClampNeg x) (e := .inl (G.2.1 1, z, .inr (.inl (vp_updL (M.2.1 (nk n)) i.toNatClampNeg x)))) (by
    simp only [cE, hs]
    congr 5
    funext q
    simp [sL, vp_updL]) (fun j k' q => D.2.2.1.2.2.1 _ j k' hal q) hP hD
  exact h p e R s mid args below meth c B C H1 locs1 cells slots ls ad (D.put (M1_sL M _ _ x) hR hS (okt (okt (okt D.ok))))
theorem pw_aastore {k q : KK} {z : Nat} {i : Int32} (hd : decode (mB mi) pc = .ok (.aastore, 1)) (hs : shp k = (3, z)) (hq : shp q = (0, 3)) (hin : vp_in i z)
    (h : PW G l mi (pc + 1) L st (sR M k i.toNatClampNeg (some q)) o M' mc ms) : PW G l mi pc L (vR (some q) :: vI i :: vR (some k) :: st) M o M' mc ms := by
  intro p e R s mid args below meth c B C H locs cells slots ls ad D
  have hal : al M k := al_of (okh (okt (okt D.ok))) (by rw [hs]; simp)
  obtain ⟨n, hn, hk, hat⟩ := HR.arR (G := G) (B := B) (H := H) (ad := ad) hs hal
  obtain ⟨n2, hn2, hk2, hat2⟩ := HR.obj (G := G) (B := B) (H := H) (ad := ad) hq (al_of (okh D.ok) (by rw [hq]; simp))
  have hqa : al M q := al_of (okh D.ok) (by rw [hq]; simp)
  refine va_astq C.1 C.2.1 C.2.2.2.2.2.2.2.2.1.2.2.1 D.2.2.1.1 D.2.2.1.2.1 D.2.1 n 2 n2 3 (r := ("TimeKeeper$Peer", T_PE, 14)) hat rfl hat2 rfl hin hd (fun H1 locs1 hP hD hS => ?_)
  subst hk
  have hR := HR.put D.2.2.1 hn (M1_sR M _ i.toNatClampNeg (some q)) (e := .inl (G.2.1 2, z, .inr (.inr (.inr (.inr (va_up (fun j => (M.2.2.1 (nk n) j).map ad) i.toNatClampNeg (some (ad q)))))))) (by
    simp only [cE, hs]
    congr 7
    funext j
    by_cases e : j = i.toNatClampNeg
    · simp [sR, va_up, e]
    · simp [sR, va_up, e]) (fun j k' z => by
    by_cases e : j = i.toNatClampNeg
    · subst e
      have : q = k' := by simpa [sR] using z
      subst this
      exact hqa
    · exact D.2.2.1.2.2.1 _ j k' hal (by simpa [sR, e] using z)) hP hD
  exact h p e R s mid args below meth c B C H1 locs1 cells slots ls ad (D.put (M1_sR M _ _ _) hR hS (okt (okt (okt D.ok))))
/-! constants of the pool -/
theorem pw_ldc {idx : Nat} (v : Int32) (hd : decode (mB mi) pc = .ok (.ldc idx, 2)) (hw : Cond.constant (mO mi) idx v ∈ GW)
    (h : PW G l mi (pc + 2) L (vI v :: st) M o M' mc ms) : PW G l mi pc L st M o M' mc ms := by
  intro p e R s mid args below meth c B C H locs cells slots ls ad D
  exact lv_ldc C.1 C.2.1 C.2.2.2.2.2.2.1 (C.2.2.2.2.2.2.2.2.1.hts args _ hw) hd (h p e R s mid args below meth c B C H locs cells slots ls ad (D.stk (okc (okI _) D.ok)))
theorem pw_ldc2 {idx : Nat} (v : Int64) (hd : decode (mB mi) pc = .ok (.ldc2_w idx, 3)) (hw : Cond.constantLong (mO mi) idx v ∈ GW)
    (h : PW G l mi (pc + 3) L (vL v :: st) M o M' mc ms) : PW G l mi pc L st M o M' mc ms := by
  intro p e R s mid args below meth c B C H locs cells slots ls ad D
  exact lv_ldc2 C.1 C.2.1 C.2.2.2.2.2.2.1 (C.2.2.2.2.2.2.2.2.1.hts args _ hw) hd (h p e R s mid args below meth c B C H locs cells slots ls ad (D.stk (okc (okJ _) D.ok)))
/-! the script -/
theorem pw_sload {i : Int32} (hd : decode (mB mi) pc = .ok (.iaload, 1)) (hin : vp_in i G.2.2.2.1)
    (h : PW G l mi (pc + 1) L (vI (G.2.2.2.2 i.toNatClampNeg) :: st) M o M' mc ms) : PW G l mi pc L (vI i :: vR (some SK) :: st) M o M' mc ms := by
  intro p e R s mid args below meth c B C H locs cells slots ls ad D
  have hX := C.2.2.2.2.2.2.2.2.2.2.2.2.2
  have hx := va_sld (Q := pE G B below s ad M.2.2.2 o M' (cells + mc) (slots + ms)) (e := e) (l := l) (R := R) (args := args) (below := below) (meth := meth) (ls := ls) (rest := st.map (cv ad)) (cells := cells) (slots := slots) C.1 C.2.1 hX.1 hX.2 (by show ¬ B.size ≤ _; have := hX.2; omega) D.2.1 hin hd (h p e R s mid args below meth c B C H locs cells slots ls ad (D.stk (okc (okI _) (okt (okt D.ok)))))
  show W p l e R s mid args below meth c H locs cells slots _ (F0 mid pc ls (.int i :: .ref (ad SK) :: st.map (cv ad)))
  rw [D.2.2.1.2.2.2.2]
  exact hx
theorem pw_slen (hd : decode (mB mi) pc = .ok (.arraylength, 1))
    (h : PW G l mi (pc + 1) L (vI (Int32.ofNat G.2.2.2.1) :: st) M o M' mc ms) : PW G l mi pc L (vR (some SK) :: st) M o M' mc ms := by
  intro p e R s mid args below meth c B C H locs cells slots ls ad D
  have hX := C.2.2.2.2.2.2.2.2.2.2.2.2.2
  have hx := va_slen (Q := pE G B below s ad M.2.2.2 o M' (cells + mc) (slots + ms)) (e := e) (l := l) (R := R) (args := args) (below := below) (meth := meth) (ls := ls) (rest := st.map (cv ad)) (cells := cells) (slots := slots) C.1 C.2.1 hX.1 hX.2 (by show ¬ B.size ≤ _; have := hX.2; omega) D.2.1 hd (h p e R s mid args below meth c B C H locs cells slots ls ad (D.stk (okc (okI _) (okt D.ok))))
  show W p l e R s mid args below meth c H locs cells slots _ (F0 mid pc ls (.ref (ad SK) :: st.map (cv ad)))
  rw [D.2.2.1.2.2.2.2]
  exact hx
end PH
