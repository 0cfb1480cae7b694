/-! 'throw new E("text")', and arraycopy -/
section PY
variable {G : GG} {l : Launch} {mi : MI} {pc : Nat} {L : List (Option PV)} {st : List PV} {M M' : Mem} {o : PO} {mc ms : Nat}
/-- the same frame, as if the method were called anew in this heap -/
theorem rebase {p : Program} {e : Env} {R R' : Room} {s T : State} {m : MethodId} {args : Array Value} {below : List Frame} {meth : Method} {c : Code} {locs : List Loc} {cells slots : Nat} (X : Stand p l e R s m args below meth c T locs cells slots) (hf : R'.frames ≤ R.frames) (hl : R'.locals ≤ R.locals) (hc : cells + R'.cells ≤ R.cells) (hs : slots + R'.slots ≤ R.slots) :
    Stand p l e R' ((T.setVm s.vm).setFrames (.invoking m args :: below)) m args below meth c T [] 0 0 := by
  have htop : (T.setVm s.vm).topJava?.isSome := X.here.top
  have hF : ((T.setVm s.vm).setFrames (.invoking m args :: below)).frames = .invoking m args :: below := State.frames_setFrames _ (State.cur_lt_of_top htop)
  obtain ⟨g₀, hg0⟩ := Option.isSome_iff_exists.mp htop
  obtain ⟨r, hr⟩ := State.topJava?_eq_some.mp hg0
  have hl9 : e.platform.stackLimits (T.setVm s.vm).me = e.platform.stackLimits s.me := X.limits
  have hb9 : (T.setVm s.vm).me.stackBytes = s.me.stackBytes := X.bytes
  refine ⟨X.admits, X.cas, X.clock, hF, ?_, X.hears, X.method, X.code, X.here, X.tail, X.warmed, ?_, ?_, ?_⟩
  · have h := X.room
    have hU : ((T.setVm s.vm).setFrames (.invoking m args :: below)).localsInUse = s.localsInUse := by
      rw [State.localsInUse_invoking hF (meth := meth) (c := c) X.method X.code, State.localsInUse_invoking X.frames X.method X.code]
    simp only [State.hasRoom, Bool.and_eq_true, decide_eq_true_eq] at h ⊢
    obtain ⟨⟨⟨⟨h1, h2, h3, h4, h5, h6⟩, h7⟩, h8⟩, h9⟩ := h
    rw [X.frames, List.length_cons] at h2 h3
    have q1 := X.heapSize
    have q2 := X.used
    simp only [hF, hU, List.length_cons, State.stackLimits_setFrames, State.stackBytes_setFrames, hl9, hb9]
    refine ⟨⟨⟨⟨by omega, by omega, by omega, by omega, by omega, h6⟩, ?_⟩, ?_⟩, X.book⟩
    · show T.heap.size + R'.cells ≤ e.platform.maxCells
      omega
    · show T.slotsUsed + R'.slots ≤ e.platform.maxSlots
      omega
  · rw [State.stackLimits_setFrames]; rfl
  · rw [State.stackBytes_setFrames]; rfl
  · refine ⟨?_, Nat.le_refl _, Nat.le_refl _, ?_, ?_, fun a c9 h9 => ⟨c9, h9, rfl, rfl, fun _ _ => rfl⟩⟩
    · obtain ⟨t, ht, -⟩ := State.frames_cons hr
      show T.setVm s.vm = { ((T.setVm s.vm).setFrames (.invoking m args :: below)).setFrames (T.setVm s.vm).frames with heap := T.heap, slotsUsed := T.slotsUsed }
      rw [State.setFrames_setFrames, State.setFrames_self ht]
      rfl
    · show T.slotsUsed = T.slotsUsed + ((T.heap.toList.drop T.heap.size).map (·.slots.size)).sum
      rw [List.drop_eq_nil_of_le (Nat.le_of_eq Array.length_toList)]
      rfl
    · show ((T.heap.toList.drop T.heap.size).map (·.slots.size)).sum ≤ 0
      rw [List.drop_eq_nil_of_le (Nat.le_of_eq Array.length_toList)]
      exact Nat.le_refl _
theorem ZS.lays {C n d : String} {B : Heap} {U : State} {args : Array Value} (h : ZS C n d B U) (hh : ∀ a, a < B.size → U.heap[a]? = B[a]?) : (Cond.laysStatic C n d).before args U = true := by
  obtain ⟨c, k, i, f, a, cell, v, h1, h2, h3, h4, h6, h7, h8, h9, h10, h11⟩ := h
  have hc : U.heap[a]? = some cell := by rw [hh a (Array.getElem?_eq_some_iff.mp h6).1]; exact h6
  show (Cond.laysStatic C n d).holds args U none U [] = true
  exact Cond.laysStatic_of h1 h2 h3 h4 hc h7 h8 (Array.getElem?_eq_some_iff.mp h10).1 h9
theorem ZS.isRef {C n d : String} {B : Heap} {U : State} {args : Array Value} (h : ZS C n d B U) (hh : ∀ a, a < B.size → U.heap[a]? = B[a]?) : (Cond.isRef (.static C n d)).before args U = true := by
  obtain ⟨c, k, i, f, a, cell, v, h1, h2, h3, h4, h6, h7, h8, h9, h10, h11⟩ := h
  have hc : U.heap[a]? = some cell := by rw [hh a (Array.getElem?_eq_some_iff.mp h6).1]; exact h6
  have hu : cell.vm ≠ .unknown := fun q => by rw [q] at h7; cases h7
  have he : (Term.static C n d).eval args U none [] U = some v := by
    simp [Term.eval, State.fieldNamed?, h2, h3, h4, hc, hu, h10, h7]
  simp only [Cond.before, Cond.holds, Cond.value, he]
  cases v <;> simp_all [Value.isRef]
abbrev exC : List String := ["java/lang/RuntimeException", "java/lang/Exception"]
/-- the words of a throw, as the tables have them -/
def XW (own : String) (ic e0 : Nat) : Prop := ∀ w ∈ Bundle.ownAtoms own ic (exN e0) exC, w ∈ GW ∨ w ∈ NW ∨ w = .castable (exN e0) (exN e0) ∨ w = .isRef (.static Bundle.tN "UNASSIGNED_STACK" Bundle.steD) ∨ w = .isRef (.static Bundle.tN "SUPPRESSED_SENTINEL" Bundle.listD) ∨ w = .laysStatic Bundle.tN "UNASSIGNED_STACK" Bundle.steD ∨ w = .laysStatic Bundle.tN "SUPPRESSED_SENTINEL" Bundle.listD
theorem NW_ot (w : Cond) (h : w ∈ NW) : w.onTables = true := by
  rcases NW_is w h with ⟨a, i, x, b, rfl⟩ | ⟨x, rfl⟩ <;> rfl
theorem pw_throw {ik is ic e0 : Nat} {text : String} (d0 : decode (mB mi) pc = .ok (.new ik, 3)) (d3 : decode (mB mi) (pc + 3) = .ok (.dup, 1)) (d4 : decode (mB mi) (pc + 4) = .ok (.ldc is, 2)) (d6 : decode (mB mi) (pc + 6) = .ok (.invokespecial ic, 3)) (d9 : decode (mB mi) (pc + 9) = .ok (.athrow, 1))
    (hk : Cond.classLink (mO mi) ik (exN e0) ∈ GW) (hini : Cond.initialized (exN e0) ∈ GW) (hstr : (mO mi, is, text) ∈ XS) (hat : XW (mO mi) ic e0) (hfit : Bundle.fit (exN e0) = true) (hno : ∀ x ∈ tableOf (mH mi), covers x (pc + 9) = false) (hf : 5 < mF mi) (hw : (st.map cat).sum + 82 ≤ mW mi) (ho : o = tE e0) (hM : M' = M) : PW G l mi pc L st M o M' (mc + 1) (ms + 6) := by
  subst ho; subst hM
  intro p e R s m args below meth c B C H locs cells slots ls ad D
  intro T hT X
  have hTB := C.2.2.2.2.2.2.2.2.1
  have hEX := C.2.2.2.2.2.2.2.2.2.1
  have hfr := C.2.2.2.2.2.2.2.2.2.2.1
  have hlo := C.2.2.2.2.2.2.2.2.2.2.2.1
  have hl := C.2.2.2.2.2.2.2.2.2.2.2.2.1
  have hD1 := D.1
  have htr : e.platform.stackTraces = false := (show e.platform.stackTraces = l.stackTraces by rw [X.admits.platform]).trans hl
  have Y := rebase X (R' := { frames := R.frames, locals := R.locals, cells := 1, slots := 6 }) (Nat.le_refl _) (Nat.le_refl _) (by show cells + 1 ≤ _; omega) (by show slots + 6 ≤ _; omega)
  obtain ⟨s', hA⟩ : ∃ z, z = (T.setVm s.vm).setFrames (.invoking m args :: below) := ⟨_, rfl⟩
  rw [← hA] at Y
  have hvm : s'.vm = s.vm := by rw [hA]; rfl
  have hhp : s'.heap = H := by rw [hA]; exact hT
  have hW0 : s.WarmedH s'.vm := by rw [hvm]; exact State.WarmedH.refl s
  have hTB' : TB G s' := hTB.warm hW0
  have hEX' : EX B s' := hEX.moved hW0.alike
  have hold : ∀ a, a < B.size → s'.heap[a]? = B[a]? := fun a ha => by rw [hhp]; exact D.2.1.2.1 a ha (by omega)
  have h : ∀ w ∈ Bundle.ownAtoms (mO mi) ic (exN e0) exC, w.before args s' = true := by
    intro w hw
    rcases hat w hw with h | h | rfl | rfl | rfl | rfl | rfl
    · exact hTB'.hts args w h
    · exact va_Nw.use (NW_ot w h) (hTB'.2.1 w h)
    · exact va_Nw.use rfl (hTB'.2.2.2.2.1 e0)
    · exact hEX'.1.isRef hold
    · exact hEX'.2.isRef hold
    · exact hEX'.1.lays hold
    · exact hEX'.2.lays hold
  have hown' : s'.vm.findClass (mO mi) = some m.cls := by rw [hvm]; exact C.2.2.2.2.2.2.1
  have hins : (Cond.instantiable (exN e0) 6).before args s' = true := h _ (by simp [Bundle.ownAtoms])
  obtain ⟨sa, hsa⟩ := hTB'.2.2.2.1 _ hstr
  obtain ⟨vm₁, cX, kX, hfX, hkX, -, -, X₁, st1⟩ := Y.newCold C.1 (own := mO mi) (C := exN e0) (index := ik) (n := 6) hown' (hTB'.hts args _ hk) hins (hTB'.hts args _ hini)
    (g := F0 m pc ls (st.map (cv ad))) rfl (by rw [C.2.1]; exact d0) (Nat.le_refl _) (Nat.le_refl _)
  generalize hT1 : (T.setVm vm₁).pushCell { cls := cX, slots := kX.instanceTypes.map defaultValue, vm := .none } = T1 at X₁ st1
  have hcat : (Value.ref T.heap.size).category = 1 := rfl
  have hcellA : T1.heap[T.heap.size]? = some (freshCell cX kX) := by rw [← hT1]; exact State.heap_pushCell_size _ _
  have d3' : decode c.code (pc + 3) = .ok (.dup, 1) := by rw [C.2.1]; exact d3
  have d4' : decode c.code (pc + 4) = .ok (.ldc is, 2) := by rw [C.2.1]; exact d4
  have hcs := cv_cats ad st
  obtain ⟨U, hsteps, hrun, hend, hW, hsame, ce, hce, hO⟩ := X₁.ctorThrowS C.1 htr (own := mO mi) (cls := exN e0) (names := exC) (ic := ic) hown' hfit (by decide +kernel) h (fun x hx => nomatch hx) hfX hkX hcellA (by rw [hhp, hT]; exact Nat.le_refl _) (msg := .ref sa) rfl
    (g := { method := m, pc := pc + 6, locals := ls, stack := .ref sa :: .ref T.heap.size :: .ref T.heap.size :: st.map (cv ad), locked := none }) rfl (D.2.2.2.1.1.trans C.2.2.1.symm) rfl rfl (rest := st.map (cv ad)) rfl
    (by rw [C.2.1]; exact d6) (by rw [C.2.1]; exact d9) (by rw [C.2.2.2.2.2.1]; exact hno) (by show 2 + 3 < R.frames; omega) (by
      simp only [List.map_cons, List.sum_cons, hcat]
      show 2 * 0 + (1 + _) + (13 * (2 + 1) + 42) ≤ R.locals
      omega) C.2.2.2.2.1
  have hWs : s.WarmedH U.vm := State.WarmedH.trans hW0 hW
  have hcl : s.vm.findClass (exN e0) = some ce.cls := by
    have h9 := hO.cls
    rw [hvm] at h9
    exact h9
  have hkeep : H.size ≤ U.heap.size ∧ ∀ q : Nat, q < H.size → U.heap[q]? = H[q]? := by
    obtain ⟨-, f2, -, -, -, f6⟩ := hsame
    rw [hhp] at f2 f6
    refine ⟨f2, fun q hq => ?_⟩
    obtain ⟨c9, e1, e2, e3, e4⟩ := f6 q _ (Array.getElem?_eq_getElem hq)
    have hs9 : c9.slots = (H[q]).slots := Array.ext_getElem? fun i => e4 i fun hm => nomatch hm
    have h9 : c9 = H[q] := by
      rw [hs9] at e2
      exact e2
    have e5 : U.heap[q]? = some c9 := e1
    rw [e5, h9, Array.getElem?_eq_getElem hq]
  have hall : s.sameButNew ({ U with vm := s.vm } : State) locs (cells + (mc + 1)) (slots + (ms + 6)) := by
    subst hA
    obtain ⟨e1, e2⟩ := hsame
    rw [State.setFrames_setFrames] at e1
    have h2 : (T.setVm s.vm).sameButNew ({ U with vm := s.vm } : State) [] (0 + 1) (0 + 6) := ⟨e1, e2⟩
    have h3 := X.same.trans h2
    rw [List.append_nil] at h3
    exact sbn_mono h3 (by omega) (by omega)
  have hR := D.2.2.1
  have hP : va_P G.1 classes (wl G ad M') U.heap := hR.1.kept (fun k q hq => hkeep.2 q.1 ((hR.1 k q hq).lt))
  refine ⟨U, ?_, .threw T.heap.size, ad, locs, hrun, hend, hWs, hall, ⟨Nat.le_trans D.2.1.1 hkeep.1, fun q h1 h2 => (hkeep.2 q (Nat.lt_of_lt_of_le h1 D.2.1.1)).trans (D.2.1.2.1 q h1 h2), D.2.1.2.2⟩, fun _ _ => rfl, Nat.le_refl _, ⟨hP, hR.2⟩, _, ce, rfl, hce, hO.vm, hcl⟩
  refine st1 _ ?_
  show Steps p.tables e below (T1.setTop { method := m, pc := pc + 3, locals := ls, stack := .ref T.heap.size :: st.map (cv ad), locked := none }) _
  have hexec := C.1
  jvm_step X₁.here [X₁.here.top, hexec, d3', Value.category]
  exact X₁.ldcString C.1 (own := mO mi) (text := text) (index := is) (a := sa) hown' hsa.1 hsa.2
    (g := { method := m, pc := pc + 4, locals := ls, stack := .ref T.heap.size :: .ref T.heap.size :: st.map (cv ad), locked := none }) rfl d4' _ hsteps
/-! arraycopy of ints, from one array into another -/
def cpI (M : Mem) (k k2 : KK) (n : Nat) : Mem := (fun q i => if q = k2 ∧ i < n then M.1 k i else M.1 q i, M.2)
theorem M1_cpI (M : Mem) (k k2 : KK) (n : Nat) : M1 k2 M (cpI M k k2 n) := ⟨rfl, fun q h => ⟨by funext i; simp [cpI, h], rfl, rfl⟩⟩
theorem pw_copy {idx : Nat} {k k2 : KK} {z z2 : Nat} {n : Int32} (hd : decode (mB mi) pc = .ok (.invokestatic idx, 3)) (hw1 : Cond.methodLink (mO mi) idx arraycopyName ∈ GW) (hw2 : Cond.native arraycopyName ∈ GW) (hw3 : Cond.static arraycopyName ∈ GW) (hw4 : Cond.initialized "java/lang/System" ∈ GW) (hs : shp k = (1, z)) (hs2 : shp k2 = (1, z2)) (hn : ¬ n < 0) (h4 : n.toNatClampNeg ≤ z) (h5 : n.toNatClampNeg ≤ z2)
    (hf : 1 ≤ mF mi) (hw : (st.map cat).sum + (nativeFrameWords "java/lang/System" "arraycopy" 5 + 11) ≤ mW mi)
    (h : PW G l mi (pc + 3) L st (cpI M k k2 n.toNatClampNeg) o M' mc ms) : PW G l mi pc L (vI n :: vI 0 :: vR (some k2) :: vI 0 :: vR (some k) :: st) M o M' mc ms := by
  intro p e R s mid args below meth c B C H locs cells slots ls ad D
  have hT := C.2.2.2.2.2.2.2.2.1
  have hx := hT.hts args
  have hfr := C.2.2.2.2.2.2.2.2.2.2.1
  have hlo := C.2.2.2.2.2.2.2.2.2.2.2.1
  have hal : al M k2 := al_of (okh (okt (okt D.ok))) (by rw [hs2]; simp)
  obtain ⟨n1, hn1, hk1, hat1⟩ := HR.arI (G := G) (B := B) (H := H) (ad := ad) hs (al_of (okh (okt (okt (okt (okt D.ok))))) (by rw [hs]; simp))
  obtain ⟨n2, hn2, hk2, hat2⟩ := HR.arI (G := G) (B := B) (H := H) (ad := ad) hs2 hal
  have hcs := cv_cats ad st
  refine va_copyi (ty := .int) C.1 C.2.1 (C.2.2.1.trans D.2.2.2.1.1.symm) C.2.2.2.2.2.2.1 (hx _ hw1) (hx _ hw2) (hx _ hw3) (hx _ hw4) hT.2.2.1 D.2.2.1.1 D.2.2.1.2.1 D.2.1 n1 n2 0 0 hat1 hat2 rfl rfl rfl (by decide) (by decide) hn (by rw [sb_cl0]; omega) (by rw [sb_cl0]; omega) (fun i _ => rfl) (by omega) (by rw [hcs]; omega) hd (fun H1 locs1 hP hD hS => ?_)
  subst hk2
  have hR := HR.put D.2.2.1 hn2 (M1_cpI M k _ n.toNatClampNeg) (e := .inl (G.2.1 0, z2, .inl (va_cpy (M.1 k) (M.1 (nk n2)) (0 : Int32).toNatClampNeg (0 : Int32).toNatClampNeg n.toNatClampNeg))) (by
    simp only [cE, hs2]
    congr 4
    funext q
    simp only [cpI, va_cpy, sb_cl0, Nat.zero_le, true_and, Nat.zero_add, Nat.sub_zero]) (fun j k' q => D.2.2.1.2.2.1 _ j k' hal q) hP hD
  exact h p e R s mid args below meth c B C H1 locs1 cells slots ls ad (D.put (M1_cpI M k _ _) hR hS (okt (okt (okt (okt (okt D.ok))))))
theorem pw_objInit {idx : Nat} {k : KK} (hd : decode (mB mi) pc = .ok (.invokespecial idx, 3)) (hw1 : Cond.methodLink (mO mi) idx objectInit ∈ GW) (hw2 : Cond.instanceMethod objectInit ∈ GW) (hw3 : Cond.code objectInit ⟨#[0xb1]⟩ 1 none ∈ GW) (hf : 1 ≤ mF mi) (hw : (st.map cat).sum + 12 ≤ mW mi)
    (h : PW G l mi (pc + 3) L st M o M' mc ms) : PW G l mi pc L (vR (some k) :: st) M o M' mc ms := by
  intro p e R s mid args below meth c B C H locs cells slots ls ad D
  have hT := C.2.2.2.2.2.2.2.2.1
  have hx := hT.hts args
  have hfr := C.2.2.2.2.2.2.2.2.2.2.1
  have hlo := C.2.2.2.2.2.2.2.2.2.2.2.1
  have hcs := cv_cats ad st
  exact W.objInit C.1 C.2.1 C.2.2.2.2.2.2.1 (hx _ hw1) (hx _ hw2) (hx _ hw3) rfl (D.2.2.2.1.1.trans C.2.2.1.symm) rfl hd (by omega) (by
    show 2 * 0 + _ + 12 ≤ _
    rw [hcs]
    omega) (h p e R s mid args below meth c B C H locs cells slots ls ad (D.stk (okt D.ok)))
end PY
