/-! a call's ends: it returns; it throws and nobody here catches; it throws and a row of the table catches -/
section PX
variable {G : GG} {l : Launch} {mi m2 : MI} {pc : Nat} {L : List (Option PV)} {as stk st : List PV} {M M' M2 : Mem} {o : PO} {mc ms c1 s1 : Nat}
theorem cv_agree {ad ad' : KK → Nat} (h : ∀ i, i < M.2.2.2 → ad' (nk i) = ad (nk i)) (hS : ad' SK = ad SK) {v : PV} (hv : okv M v) : cv ad' v = cv ad v := by
  rcases v with x | x | r
  · rfl
  · rfl
  · cases r with
    | none => rfl
    | some k =>
      show va_rf (some (ad' k)) = va_rf (some (ad k))
      rcases hv k rfl with rfl | ⟨n, hn, e⟩
      · rw [hS]
      · rw [← e, h n hn]
theorem al_mono (h : M.2.2.2 ≤ M2.2.2.2) {k : KK} (ha : al M k) : al M2 k := by
  obtain ⟨n, hn, e⟩ := ha
  exact ⟨n, by omega, e⟩
theorem LR_agree {ad ad' : KK → Nat} {ls : Array Slot} {n : Nat} (h : ∀ i, i < M.2.2.2 → ad' (nk i) = ad (nk i)) (hS : ad' SK = ad SK) (hL : LR ad L ls n) (ho : okL M L) : LR ad' L ls n := ⟨hL.1, hL.2.1, fun i v hv => by rw [cv_agree h hS (ho i v hv)]; exact hL.2.2 i v hv⟩
theorem pE_agree {B : Heap} {below : List Frame} {s t : State} {ad ad' : KK → Nat} {x y x' y' : Nat} (h : ∀ i, i < M.2.2.2 → ad' (nk i) = ad (nk i)) (hm : M.2.2.2 ≤ M2.2.2.2) (hx : x = x') (hy : y = y') (hE : pE G B below s ad' M2.2.2.2 o M' x y t) : pE G B below s ad M.2.2.2 o M' x' y' t := by
  subst hx; subst hy
  obtain ⟨out, ad2, Ls, h1, h2, h3, h4, h5, h6, h7, h8, h9⟩ := hE
  exact ⟨out, ad2, Ls, h1, h2, h3, h4, h5, fun i hi => (h6 i (by omega)).trans (h i hi), by omega, h8, h9⟩
theorem pw_call {r : Option PV} (hI : INV G l mi pc (mY m2) as stk st M) (hok : MOK m2) (hent : (entL as).length ≤ mL m2) (hf : mF m2 + 1 ≤ mF mi) (hw : (st.map cat).sum + (mL m2 + 11) + mW m2 ≤ mW mi) (hPM : PM G l m2 as M (.inl r) M2 c1 s1)
    (h : PW G l mi (pc + 3) L (r.toList ++ st) M2 o M' mc ms) : PW G l mi pc L stk M o M' (c1 + mc) (s1 + ms) := by
  intro p e R s mid args below meth c B C H locs cells slots ls ad D
  obtain ⟨⟨ha, hst⟩, hI⟩ := hI
  intro T hT X
  subst hT
  obtain ⟨⟨ig, hdg⟩, T1, mk, hh, X1, hn, hgo⟩ := hI p e R s mid args below meth c B C T locs cells slots ls ad X D.2.2.1 D.ok
  have hD1 := D.1
  obtain ⟨t, hs, hvm, out, ad', Ls, q1, q2, q3, q4, q5, q6, q7, q8, q9⟩ := call_core (st := st) (ls := ls) C X1 (by rw [hh]; exact D.2.1) (by rw [hh]; exact D.2.2.1) hok hn D.2.2.2.1.1 hdg (fun v hv => D.ok v (ha v hv)) hent hPM hf hw (by omega) (by omega)
  obtain ⟨rfl, q9⟩ := q9
  obtain ⟨T', X', hW', hsm, ht⟩ := X1.outOf (g := F0 mid pc ls (st.map (cv ad))) rfl hdg q2 q3 q4
  have hh' : t.heap = T'.heap := by rw [ht]; rfl
  have hSK : ad' SK = ad SK := q8.2.2.2.2.trans D.2.2.1.2.2.2.2.symm
  have hstk : ∀ v ∈ st, okv M v := fun v hv => D.ok v (hst v hv)
  have hmap : ((r.map (cv ad')).toList ++ st.map (cv ad)) = (r.toList ++ st).map (cv ad') := by
    rw [List.map_append]
    congr 1
    · cases r <;> rfl
    · exact List.map_congr_left fun v hv => (cv_agree q6 hSK (hstk v hv)).symm
  have D' : DX G mi R B M2 L (r.toList ++ st) mc ms T'.heap (locs ++ Ls) (cells + c1) (slots + s1) ls ad' := by
    refine ⟨⟨by omega, by omega⟩, ⟨?_, ?_, ?_⟩, ?_, LR_agree q6 hSK D.2.2.2.1 D.2.2.2.2.1, fun i v hv k ek => (D.2.2.2.2.1 i v hv k ek).imp id (al_mono q7), fun v hv => ?_⟩
    · rw [← hh']; exact q5.1
    · rw [← hh']; exact q5.2.1
    · intro q hq
      rcases List.mem_append.mp hq with z | z
      · exact D.2.1.2.2 q z
      · exact q5.2.2 q z
    · rw [← hh']; exact q8
    · rcases List.mem_append.mp hv with z | z
      · cases r with
        | none => cases z
        | some w => exact (List.mem_singleton.mp z) ▸ q9 w rfl
      · exact fun k ek => (hstk v z k ek).imp id (al_mono q7)
  obtain ⟨t2, g1, g2⟩ := h p e R s mid args below meth c B C T'.heap (locs ++ Ls) (cells + c1) (slots + s1) ls ad' D' T' rfl X'
  refine ⟨t2, hgo t2 (hs.trans ?_), pE_agree q6 q7 (by omega) (by omega) g2⟩
  rw [ht]
  show Steps p.tables e below (T'.setTop (F0 mid (pc + 3) ls ((r.map (cv ad')).toList ++ st.map (cv ad)))) t2
  rw [hmap]
  exact g1
theorem pw_callX {e0 : Nat} (hI : INV G l mi pc (mY m2) as stk st M) (hok : MOK m2) (hent : (entL as).length ≤ mL m2) (hf : mF m2 + 1 ≤ mF mi) (hw : (st.map cat).sum + (mL m2 + 11) + mW m2 ≤ mW mi) (hPM : PM G l m2 as M (tE e0) M2 c1 s1) (hno : ∀ x ∈ tableOf (mH mi), covers x pc = false) (ho : o = tE e0) (hM : M' = M2) : PW G l mi pc L stk M o M' (c1 + mc) (s1 + ms) := by
  subst ho; subst hM
  intro p e R s mid args below meth c B C H locs cells slots ls ad D
  obtain ⟨⟨ha, hst⟩, hI⟩ := hI
  intro T hT X
  subst hT
  obtain ⟨⟨ig, hdg⟩, T1, mk, hh, X1, hn, hgo⟩ := hI p e R s mid args below meth c B C T locs cells slots ls ad X D.2.2.1 D.ok
  have hD1 := D.1
  obtain ⟨t, hs, hvm, out, ad', Ls, q1, q2, q3, q4, q5, q6, q7, q8, q9⟩ := call_core (st := st) (ls := ls) C X1 (by rw [hh]; exact D.2.1) (by rw [hh]; exact D.2.2.1) hok hn D.2.2.2.1.1 hdg (fun v hv => D.ok v (ha v hv)) hent hPM hf hw (by omega) (by omega)
  obtain ⟨q, ce, rfl, z1, z2, z3⟩ := q9
  obtain ⟨T', X', hW', hsm, ht⟩ := X1.outOfThrown (g := F0 mid pc ls (st.map (cv ad))) rfl q2 q3 q4
  have hh' : t.heap = T'.heap := by rw [ht]; rfl
  have hSK : ad' SK = ad SK := q8.2.2.2.2.trans D.2.2.1.2.2.2.2.symm
  obtain ⟨st1, hrun, hend, hW, hsm2⟩ := X'.leaveThrown q (g := F0 mid pc ls (st.map (cv ad))) rfl rfl rfl (by rw [C.2.2.2.2.2.1]; exact hno) C.2.2.2.2.1
  have hcl : s.vm.findClass (exN e0) = some ce.cls := by
    have : T1.vm.findClass (exN e0) = some ce.cls := z3
    rwa [X1.warmed.alike.findClass] at this
  refine ⟨_, hgo _ (hs.trans (by rw [ht]; exact st1)), .threw q, ad', locs ++ Ls, hrun, hend, hW, sbn_mono hsm2 (by omega) (by omega), ⟨?_, ?_, ?_⟩, q6, q7, ?_, q, ce, rfl, ?_, z2, hcl⟩
  · show B.size ≤ T'.heap.size
    rw [← hh']; exact q5.1
  · show ∀ z : Nat, z < B.size → ¬ B.size ≤ z → T'.heap[z]? = B[z]?
    rw [← hh']; exact q5.2.1
  · intro z hz
    rcases List.mem_append.mp hz with y | y
    · exact D.2.1.2.2 z y
    · exact q5.2.2 z y
  · show HR G B ad' M' T'.heap
    rw [← hh']; exact q8
  · show T'.heap[q]? = some ce
    rw [← hh']; exact z1
/-! the search for a handler, with classes that may be resolved in it -/
def fdTo (e : Env) (s : State) (f : JFrame) (a : Addr) (h : Handler) (vm' : Vm) : Prop := ∀ (Q : Handler → Pre) (E : CtlPost) (d : Bool) (acts : List Action), wp (findHandler f a) Q E e d acts s ↔ Q h d acts (s.setVm vm')
theorem fd_link {Q : Handler → Pre} {E : CtlPost} {e : Env} {d : Bool} {acts : List Action} {s : State} {f : JFrame} {a : Addr} {x : ExceptionTableEntry} {t : List ExceptionTableEntry} {c : ClassId} {cell : Cell} (hx : covers x f.pc = true) (h0 : x.catchType ≠ 0)
    (hl : s.vm.ClassLinks e.platform f.method.cls x.catchType c) (hcell : s.heap[a]? = some cell) (hobj : ∀ k, cell.vm ≠ .statics k) (hk : ∃ k, s.vm.classes[cell.cls]? = some k) (hc : ∃ k, s.vm.classes[c]? = some k) :
    (s.vm.assignable cell.cls c = true → (wp (findHandler.go f a (x :: t)) Q E e d acts s ↔ Q (.found x.handlerPc) d acts (s.setVm (s.vm.noted f.method.cls x.catchType (.cls c))))) ∧
    (s.vm.assignable cell.cls c = false → (wp (findHandler.go f a (x :: t)) Q E e d acts s ↔ wp (findHandler.go f a t) Q E e d acts (s.setVm (s.vm.noted f.method.cls x.catchType (.cls c))))) := by
  simp only [covers] at hx
  obtain ⟨ha, ht⟩ := (resolveClass_links e.toSetting hl).op (op := VmOp.resolveClass f.method.cls x.catchType) rfl
  have hal : s.vm.Alike (s.vm.noted f.method.cls x.catchType (.cls c)) := (Vm.Alike.refl s.vm).noted _ _ _
  obtain ⟨k1, hk1⟩ := hk
  obtain ⟨k2, hk2⟩ := hc
  obtain ⟨k1', hk1', -⟩ := hal.2.2 _ _ hk1
  obtain ⟨k2', hk2', -⟩ := hal.2.2 _ _ hk2
  constructor
  · intro hfit
    have hfit' : (s.vm.noted f.method.cls x.catchType (.cls c)).assignable cell.cls c = true := by rw [hal.assignable]; exact hfit
    simp [findHandler.go, hx, h0, ha, ht, hcell, hobj, hk1', hk2', hfit', VmOp.dirties, VmOp.acts]
  · intro hno
    have hno' : (s.vm.noted f.method.cls x.catchType (.cls c)).assignable cell.cls c = false := by rw [hal.assignable]; exact hno
    simp [findHandler.go, hx, h0, ha, ht, hcell, hobj, hk1', hk2', hno', VmOp.dirties, VmOp.acts]
/-- the rows ahead are passed -/
theorem fd_go {e : Env} {s₀ : State} {f : JFrame} {a : Addr} {cell : Cell} (hobj : ∀ k, cell.vm ≠ .statics k) (hk0 : ∃ k, s₀.vm.classes[cell.cls]? = some k) (x : ExceptionTableEntry) (rest : List ExceptionTableEntry) (hx : covers x f.pc = true) (h0 : x.catchType ≠ 0) {c : ClassId} (hl : s₀.vm.ClassLinks e.platform f.method.cls x.catchType c) (hfit : s₀.vm.assignable cell.cls c = true) :
    ∀ (pre : List ExceptionTableEntry) (S : State), s₀.WarmedH S.vm → S.heap[a]? = some cell → (∀ y ∈ pre, covers y f.pc = false ∨ (y.catchType ≠ 0 ∧ ∃ c, s₀.vm.ClassLinks e.platform f.method.cls y.catchType c ∧ s₀.vm.assignable cell.cls c = false)) →
      ∃ vm', s₀.WarmedH vm' ∧ ∀ (Q : Handler → Pre) (E : CtlPost) (d : Bool) (acts : List Action), wp (findHandler.go f a (pre ++ x :: rest)) Q E e d acts S ↔ Q (.found x.handlerPc) d acts (S.setVm vm') := by
  obtain ⟨k0, hk0⟩ := hk0
  intro pre
  induction pre with
  | nil =>
    intro S hW hcell _
    obtain ⟨k0', hk0', -⟩ := hW.alike.2.2 _ _ hk0
    obtain ⟨dk, _, _, kt, hd, _, _, _, _, hkt, _, hopen⟩ := hl.here
    obtain ⟨kt', hkt', -⟩ := hW.alike.2.2 _ _ hkt
    exact ⟨_, hW.noted hd hopen (State.rightAt_cls hl), fun Q E d acts => (fd_link hx h0 (hW.classLinks hl) hcell hobj ⟨k0', hk0'⟩ ⟨kt', hkt'⟩).1 (by rw [hW.alike.assignable]; exact hfit)⟩
  | cons y ys ih =>
    intro S hW hcell hpass
    obtain ⟨k0', hk0', -⟩ := hW.alike.2.2 _ _ hk0
    have hrest := fun z hz => hpass z (List.mem_cons_of_mem _ hz)
    by_cases hcov : covers y f.pc = true
    · rcases hpass y List.mem_cons_self with h | ⟨hy0, c2, hl2, hno⟩
      · rw [h] at hcov; cases hcov
      · obtain ⟨dk, _, _, kt, hd, _, _, _, _, hkt, _, hopen⟩ := hl2.here
        obtain ⟨kt', hkt', -⟩ := hW.alike.2.2 _ _ hkt
        obtain ⟨vm', hW', hq⟩ := ih (S.setVm (S.vm.noted f.method.cls y.catchType (.cls c2))) (hW.noted hd hopen (State.rightAt_cls hl2)) hcell hrest
        refine ⟨vm', hW', fun Q E d acts => ?_⟩
        rw [List.cons_append, (fd_link hcov hy0 (hW.classLinks hl2) hcell hobj ⟨k0', hk0'⟩ ⟨kt', hkt'⟩).2 (by rw [hW.alike.assignable]; exact hno)]
        exact hq Q E d acts
    · obtain ⟨vm', hW', hq⟩ := ih S hW hcell hrest
      refine ⟨vm', hW', fun Q E d acts => ?_⟩
      rw [List.cons_append, W.findHandler_go_skip (by simpa using hcov)]
      exact hq Q E d acts
theorem fd_step {e : Env} {s : State} {a : Addr} {f : JFrame} {r : List Frame} {pc : Nat} {vm' : Vm} (hfind : fdTo e s f a (.found pc) vm') : (stepThrowing e s a (.java f :: r)).Is ((s.setVm vm').setFrames (.java { f with pc := pc, stack := [.ref a] } :: r)) [] := by
  simp only [stepThrowing, searchFrame, vmDo]
  generalize hr : Sem.go _ e false [] s = res
  obtain ⟨as, rfl, ha⟩ := Sem.eq_ok_of hr (a := Handler.found pc) (s' := s.setVm vm') (acts' := []) (by simp [hfind _ _ _ _])
  exact ⟨rfl, ha⟩
theorem sfv (u : State) (vm' : Vm) (F G : List Frame) : ((u.setFrames F).setVm vm').setFrames G = (u.setVm vm').setFrames G := by
  have h1 : (u.setFrames F).setVm vm' = (u.setVm vm').setFrames F := rfl
  rw [h1, State.setFrames_setFrames]
theorem fd_caught {tb : Tables} {e : Env} {s target : State} {g : JFrame} {c : Code} {below : List Frame} {a : Addr} (h : At s g.method c below) {pc : Nat} {vm' : Vm} (hfind : fdTo e ((s.setTop g).pushFrame (.throwing a)) g a (.found pc) vm') (hrest : Steps tb e below ((s.setVm vm').setTop { g with pc := pc, stack := [.ref a] }) target) :
    Steps tb e below ((s.setTop g).pushFrame (.throwing a)) target := by
  obtain ⟨hgo, hw⟩ := h.throwing a
  refine Steps.head hgo hw ?_
  rw [stepThread_throwing (frames_entered h.top _), (fd_step (s := (s.setTop g).pushFrame (.throwing a)) hfind).1]
  obtain ⟨g₀, hg⟩ := Option.isSome_iff_exists.mp h.top
  obtain ⟨r, hr⟩ := State.topJava?_eq_some.mp hg
  have hr' : (s.setVm vm').frames = .java g₀ :: r := hr
  rw [State.setTop_of_frames _ hr'] at hrest
  rw [hr, List.tail_cons, State.pushFrame, sfv, State.setTop_of_frames _ hr, sfv]
  exact hrest
/-! a local that is given up -/
def stN (L : List (Option PV)) (j : Nat) : List (Option PV) := (stL L j (vI 0)).set j none
theorem ldL_set : ∀ (L : List (Option PV)) (j i : Nat) (v : PV), ldL (L.set j none) i = some v → i ≠ j ∧ ldL L i = some v
  | [], j, i, v, h => by simp [ldL] at h
  | x :: r, 0, i, v, h => by
    cases i with
    | zero => simp [ldL] at h
    | succ i => exact ⟨by omega, by simpa [ldL] using h⟩
  | x :: r, j + 1, i, v, h => by
    cases i with
    | zero => exact ⟨by omega, by simpa [ldL] using h⟩
    | succ i =>
      obtain ⟨h1, h2⟩ := ldL_set r j i v (by simpa [ldL] using h)
      exact ⟨by omega, by simpa [ldL] using h2⟩
theorem LR_stN {ad : KK → Nat} {ls' : Array Slot} {nL i : Nat} {w : Value} (h : lv_has ls' nL ((i, w) :: (asc ad L).filter (fun q => !(q.1 == i) && !(q.1 + 1 == i && q.2.category == 2)))) : LR ad (stN L i) ls' nL := by
  refine LR_of h fun j v hv => ?_
  obtain ⟨h0, hv⟩ := ldL_set _ _ _ _ hv
  rcases ldL_st (vI 0) v L i j hv with ⟨h1, h2⟩ | ⟨h1, h2, h3, h4⟩
  · exact absurd h1 h0
  · refine List.mem_cons_of_mem _ (List.mem_filter.mpr ⟨mem_asc.mpr ⟨v, h2, rfl⟩, ?_⟩)
    simp only [cv_cat, Bool.and_eq_true, Bool.not_eq_true', beq_eq_false_iff_ne, ne_eq, Bool.and_eq_false_iff]
    refine ⟨h1, ?_⟩
    by_cases e : j + 1 = i
    · exact Or.inr fun q => h4 ⟨e, q⟩
    · exact Or.inl e
theorem okL_stN {i : Nat} (h : okL M L) : okL M (stN L i) := fun j v hv => okL_st h (okI 0) j v (ldL_set _ _ _ _ hv).2
/-- a row of the table catches: its handler stores the exception away, and nobody asks for it again -/
theorem pw_callC {e0 j len : Nat} {pre suf : List (Nat × Nat × Nat × Nat)} {x : Nat × Nat × Nat × Nat} (hI : INV G l mi pc (mY m2) as stk st M) (hok : MOK m2) (hent : (entL as).length ≤ mL m2) (hf : mF m2 + 1 ≤ mF mi) (hw : (st.map cat).sum + (mL m2 + 11) + mW m2 ≤ mW mi) (hPM : PM G l m2 as M (tE e0) M2 c1 s1)
    (hsplit : mH mi = pre ++ x :: suf) (hpass : ∀ z ∈ pre, z.2.2.2 ≠ 0 ∧ ∃ e2, (e0, e2) ∈ XP ∧ Cond.classLink (mO mi) z.2.2.2 (exN e2) ∈ GW) (hx : covers ⟨x.1, x.2.1, x.2.2.1, x.2.2.2⟩ pc = true) (h0 : x.2.2.2 ≠ 0) (hlink : Cond.classLink (mO mi) x.2.2.2 (exN e0) ∈ GW) (hj : j < mL mi)
    (hda : (decode (mB mi) x.2.2.1 = .ok (.astore j, 2) ∧ len = 2) ∨ (∃ k : Fin 4, decode (mB mi) x.2.2.1 = .ok (.astore_n k, 1) ∧ k.val = j ∧ len = 1))
    (h : PW G l mi (x.2.2.1 + len) (stN L j) [] M2 o M' mc ms) : PW G l mi pc L stk M o M' (c1 + mc) (s1 + ms) := by
  intro p e R s mid args below meth c B C H locs cells slots ls ad D
  obtain ⟨⟨ha, hst⟩, hI⟩ := hI
  intro T hT X
  subst hT
  obtain ⟨⟨ig, hdg⟩, T1, mk, hh, X1, hn, hgo⟩ := hI p e R s mid args below meth c B C T locs cells slots ls ad X D.2.2.1 D.ok
  have hD1 := D.1
  have hTB := C.2.2.2.2.2.2.2.2.1
  have hpl : e.platform.magicAccessors = ({} : Platform).magicAccessors := by rw [X.admits.platform]
  obtain ⟨t, hs, hvm, out, ad', Ls, q1, q2, q3, q4, q5, q6, q7, q8, q9⟩ := call_core (st := st) (ls := ls) C X1 (by rw [hh]; exact D.2.1) (by rw [hh]; exact D.2.2.1) hok hn D.2.2.2.1.1 hdg (fun v hv => D.ok v (ha v hv)) hent hPM hf hw (by omega) (by omega)
  obtain ⟨q, ce, rfl, z1, z2, z3⟩ := q9
  obtain ⟨T', X', hW', hsm, ht⟩ := X1.outOfThrown (g := F0 mid pc ls (st.map (cv ad))) rfl q2 q3 q4
  have hh' : t.heap = T'.heap := by rw [ht]; rfl
  have hSK : ad' SK = ad SK := q8.2.2.2.2.trans D.2.2.1.2.2.2.2.symm
  have hcl : s.vm.findClass (exN e0) = some ce.cls := by
    have : T1.vm.findClass (exN e0) = some ce.cls := z3
    rwa [X1.warmed.alike.findClass] at this
  obtain ⟨c3, c4, hc3, hc4, hasg⟩ := Cond.castable_spec (show (Cond.castable (exN e0) (exN e0)).holds #[] s none s [] = true from hTB.2.2.2.2.1 e0)
  cases Option.some.inj (hc3.symm.trans hcl)
  obtain ⟨c5, hc5, hcl5⟩ := Cond.classLink_spec C.2.2.2.2.2.2.1 (hTB.hts args _ hlink) e.platform hpl
  cases Option.some.inj (hc4.symm.trans hc5)
  have hk0 : ∃ k, s.vm.classes[ce.cls]? = some k := by obtain ⟨k9, h9, -⟩ := Vm.findClass_spec hcl; exact ⟨k9, h9⟩
  have hobj : ∀ k, ce.vm ≠ .statics k := fun k z => by rw [z2] at z; cases z
  obtain ⟨vm', hW', hq⟩ := fd_go (e := e) (s₀ := s) (f := F0 mid pc ls (st.map (cv ad))) (a := q) (cell := ce) hobj hk0 ⟨x.1, x.2.1, x.2.2.1, x.2.2.2⟩ (tableOf suf) hx h0 hcl5 hasg (tableOf pre) ((T'.setTop (F0 mid pc ls (st.map (cv ad)))).pushFrame (.throwing q)) X'.warmed (by
      show T'.heap[q]? = some ce
      rw [← hh']; exact z1) (fun y hy => by
      obtain ⟨z, hz, rfl⟩ := List.mem_map.mp hy
      obtain ⟨y0, e2, y1, y2⟩ := hpass z hz
      obtain ⟨a8, b8, g1, g2, g3⟩ := hTB.2.2.2.2.2.1 _ y1
      cases Option.some.inj (g1.symm.trans hcl)
      obtain ⟨c6, hc6, hcl6⟩ := Cond.classLink_spec C.2.2.2.2.2.2.1 (hTB.hts args _ y2) e.platform hpl
      cases Option.some.inj (g2.symm.trans hc6)
      exact Or.inr ⟨y0, _, hcl6, g3⟩)
  have X2 := X'.noted hW'
  have hfind : fdTo e ((T'.setTop (F0 mid pc ls (st.map (cv ad)))).pushFrame (.throwing q)) (F0 mid pc ls (st.map (cv ad))) q (.found x.2.2.1) vm' := by
    intro Q E d acts
    rw [W.findHandler_eq (meth := meth) (code := c) X'.method' X'.code, C.2.2.2.2.2.1, hsplit]
    have := hq Q E d acts
    rw [show tableOf (pre ++ x :: suf) = tableOf pre ++ ⟨x.1, x.2.1, x.2.2.1, x.2.2.2⟩ :: tableOf suf by simp [tableOf]]
    exact this
  have key : ∀ ls2 : Array Slot, LR ad' (stN L j) ls2 (mL mi) → ∃ t2, Steps p.tables e below ((T'.setVm vm').setTop (F0 mid (x.2.2.1 + len) ls2 [])) t2 ∧ pE G B below s ad' M2.2.2.2 o M' (cells + c1 + mc) (slots + s1 + ms) t2 := by
    intro ls2 hl2
    have D' : DX G mi R B M2 (stN L j) [] mc ms T'.heap (locs ++ Ls) (cells + c1) (slots + s1) ls2 ad' := by
      refine ⟨⟨by omega, by omega⟩, ⟨?_, ?_, ?_⟩, ?_, hl2, okL_stN (fun i v hv k ek => (D.2.2.2.2.1 i v hv k ek).imp id (al_mono q7)), fun v hv => by cases hv⟩
      · rw [← hh']; exact q5.1
      · rw [← hh']; exact q5.2.1
      · intro z hz
        rcases List.mem_append.mp hz with y | y
        · exact D.2.1.2.2 z y
        · exact q5.2.2 z y
      · rw [← hh']; exact q8
    exact h p e R s mid args below meth c B C T'.heap (locs ++ Ls) (cells + c1) (slots + s1) ls2 ad' D' (T'.setVm vm') rfl X2
  have hLR : LR ad' L ls (mL mi) := LR_agree q6 hSK D.2.2.2.1 D.2.2.2.2.1
  have hwk : W p l e R s mid args below meth c T'.heap (locs ++ Ls) (cells + c1) (slots + s1) (pE G B below s ad' M2.2.2.2 o M' (cells + c1 + mc) (slots + s1 + ms)) (F0 mid x.2.2.1 ls [.ref q]) := by
    rcases hda with ⟨hda, rfl⟩ | ⟨k, hda, hkj, rfl⟩
    · exact lv_astore C.1 C.2.1 hda (LR_has hLR) hj rfl (fun ls2 hl2 => by
        intro T9 hT9 X9
        have D' : DX G mi R B M2 (stN L j) [] mc ms T'.heap (locs ++ Ls) (cells + c1) (slots + s1) ls2 ad' := by
          refine ⟨⟨by omega, by omega⟩, ⟨?_, ?_, ?_⟩, ?_, LR_stN hl2, okL_stN (fun i v hv k ek => (D.2.2.2.2.1 i v hv k ek).imp id (al_mono q7)), fun v hv => by cases hv⟩
          · rw [← hh']; exact q5.1
          · rw [← hh']; exact q5.2.1
          · intro z hz
            rcases List.mem_append.mp hz with y | y
            · exact D.2.1.2.2 z y
            · exact q5.2.2 z y
          · rw [← hh']; exact q8
        exact h p e R s mid args below meth c B C T'.heap (locs ++ Ls) (cells + c1) (slots + s1) ls2 ad' D' T9 hT9 X9)
    · subst hkj
      exact lv_astore_n C.1 C.2.1 hda rfl (LR_has hLR) hj rfl (fun ls2 hl2 => by
        intro T9 hT9 X9
        have D' : DX G mi R B M2 (stN L k.val) [] mc ms T'.heap (locs ++ Ls) (cells + c1) (slots + s1) ls2 ad' := by
          refine ⟨⟨by omega, by omega⟩, ⟨?_, ?_, ?_⟩, ?_, LR_stN hl2, okL_stN (fun i v hv k ek => (D.2.2.2.2.1 i v hv k ek).imp id (al_mono q7)), fun v hv => by cases hv⟩
          · rw [← hh']; exact q5.1
          · rw [← hh']; exact q5.2.1
          · intro z hz
            rcases List.mem_append.mp hz with y | y
            · exact D.2.1.2.2 z y
            · exact q5.2.2 z y
          · rw [← hh']; exact q8
        exact h p e R s mid args below meth c B C T'.heap (locs ++ Ls) (cells + c1) (slots + s1) ls2 ad' D' T9 hT9 X9)
  obtain ⟨t2, g1, g2⟩ := hwk (T'.setVm vm') rfl X2
  refine ⟨t2, hgo t2 (hs.trans ?_), pE_agree q6 q7 (by omega) (by omega) g2⟩
  rw [ht]
  exact fd_caught X'.here hfind g1
end PX
