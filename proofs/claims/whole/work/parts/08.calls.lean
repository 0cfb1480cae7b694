/-! calls -/
def cw (mi : MI) : Cond := match mH mi with
  | [] => .code (mY mi) (mB mi) (mL mi) (mT mi)
  | _ :: _ => .codeWith (mY mi) (mB mi) (mL mi) (mT mi) (mH mi)
theorem cw_spec {mi : MI} {args : Array Value} {s : State} (h : (cw mi).before args s = true) : ∃ m meth c, s.methodNamed? (mY mi) = some m ∧ s.vm.method? m = some meth ∧ meth.code = some c ∧ c.code = mB mi ∧ c.maxLocals = mL mi ∧ meth.sig.returnType = mT mi ∧ meth.locks = false ∧ c.exceptionTable.toList = tableOf (mH mi) ∧ parseMethodDescriptor (mY mi).desc = some meth.sig := by
  unfold cw at h
  split at h
  · rename_i hh
    obtain ⟨m, hn⟩ := Cond.code_named h
    obtain ⟨meth, c, h1, h2, h3, h4, h5, h6, h7, h8⟩ := Cond.code_spec hn h
    refine ⟨m, meth, c, hn, h1, h2, h3, h4, h5, h6, ?_, h8⟩
    rw [hh, Array.isEmpty_iff.mp h7]
    rfl
  · obtain ⟨m, meth, c, hn, h1, h2, h3, h4, h5, h6, h7, h8⟩ := Cond.codeWith_spec h
    refine ⟨m, meth, c, hn, h1, h2, h3, h4, h6, h7, ?_, h8⟩
    rw [← h5, table_eq]
/-- a method as the tables have it -/
def MOK (mi : MI) : Prop := cw mi ∈ GW ∧ Cond.initialized (mY mi).cls ∈ GW ∧ mO mi = (mY mi).cls ∧ plainFor (mY mi) = true ∧ ((mY mi).cls ≠ "java/lang/invoke/MethodHandle" ∧ (mY mi).cls ≠ "java/lang/invoke/VarHandle")
def nP (mi : MI) (n : Nat) : Prop := (parseMethodDescriptor (mY mi).desc).map (fun d => d.parameters.length) = some n
/-- the invoking instruction comes to the invocation -/
def INV (G : GG) (l : Launch) (mi : MI) (pc : Nat) (y : MethodName) (as stk st : List PV) (M : Mem) : Prop :=
  ((∀ v ∈ as, v ∈ stk) ∧ ∀ v ∈ st, v ∈ stk) ∧ ∀ p e R s mid args below meth c B, CX G l mi p R s mid meth c B → ∀ T locs cells slots ls ad, Stand p l e R s mid args below meth c T locs cells slots → HR G B ad M T.heap → (∀ v ∈ stk, okv M v) →
    (∃ ig, decode c.code pc = .ok (ig, 3)) ∧ ∃ T1 mk, T1.heap = T.heap ∧ Stand p l e R s mid args below meth c T1 locs cells slots ∧ T1.methodNamed? y = some mk ∧
      ∀ target, Steps p.tables e below (doInvoke e (T1.setTop (F0 mid pc ls (st.map (cv ad)))) [] mk (as.map (cv ad)).toArray).1 target → Steps p.tables e below (T.setTop (F0 mid pc ls (stk.map (cv ad)))) target
theorem cv_rev (ad : KK → Nat) (as st : List PV) : (as.reverse ++ st).map (cv ad) = (as.map (cv ad)).reverse ++ st.map (cv ad) := by simp
section PC
variable {G : GG} {l : Launch} {mi m2 : MI} {pc : Nat} {L : List (Option PV)} {as stk st : List PV} {M M' M2 : Mem} {o : PO} {mc ms c1 s1 : Nat}
theorem inv_S {idx : Nat} (hd : decode (mB mi) pc = .ok (.invokestatic idx, 3)) (hok : MOK m2) (hl : Cond.methodLink (mO mi) idx (mY m2) ∈ GW) (hst : Cond.static (mY m2) ∈ GW) (hn : nP m2 as.length) (hs : stk = as.reverse ++ st) : INV G l mi pc (mY m2) as stk st M := by
  subst hs
  refine ⟨⟨fun v h => by simp at h ⊢; first | exact Or.inl h | (rcases h with h | h; exact Or.inr (Or.inl h); exact Or.inl h), fun v h => by simp; first | exact Or.inr h | exact Or.inr (Or.inr h)⟩, ?_⟩
  intro p e R s mid args below meth c B C T locs cells slots ls ad X hR hk
  have hT := C.2.2.2.2.2.2.2.2.1
  have hw := hT.hts args
  obtain ⟨mk, methM, cM, hnamed, hmethM, -, -, -, -, -, -, hsigM⟩ := cw_spec (hw _ hok.1)
  have hstatic : methM.isStatic = true := Cond.static_spec hnamed hmethM (hw _ hst)
  obtain ⟨kP, hkP, -⟩ := className_of_methodNamed hnamed
  have hinitP : kP.init = .initialized := Cond.initialized_spec (findClass_of_methodNamed hnamed) hkP (hw _ hok.2.1)
  have hlen : (as.map (cv ad)).length = methM.sig.parameters.length := by
    have h2 := hn
    unfold nP at h2
    rw [hsigM] at h2
    rw [List.length_map]
    exact (Option.some.inj h2).symm
  obtain ⟨vm₁, X₁, hstep₁⟩ := X.invokestatic C.1 C.2.2.2.2.2.2.1 (hw _ hl) hnamed hmethM hstatic hkP hinitP hok.2.2.2.2 (g := F0 mid pc ls ((as.reverse ++ st).map (cv ad))) rfl (argsL := as.map (cv ad)) (rest := st.map (cv ad)) hlen (cv_rev ad as st) (by rw [C.2.1]; exact hd)
  exact ⟨⟨_, by rw [C.2.1]; exact hd⟩, T.setVm vm₁, mk, rfl, X₁, X₁.named hnamed, fun target h => hstep₁ _ fun acts => by rw [doInvoke_state]; exact h⟩
theorem inv_N {idx : Nat} {host : String} (hd : decode (mB mi) pc = .ok (.invokestatic idx, 3)) (hok : MOK m2) (hl : Cond.methodLinkNest (mO mi) idx (mY m2) host ∈ NW) (hst : Cond.static (mY m2) ∈ GW) (hn : nP m2 as.length) (hs : stk = as.reverse ++ st) : INV G l mi pc (mY m2) as stk st M := by
  subst hs
  refine ⟨⟨fun v h => by simp at h ⊢; first | exact Or.inl h | (rcases h with h | h; exact Or.inr (Or.inl h); exact Or.inl h), fun v h => by simp; first | exact Or.inr h | exact Or.inr (Or.inr h)⟩, ?_⟩
  intro p e R s mid args below meth c B C T locs cells slots ls ad X hR hk
  have hT := C.2.2.2.2.2.2.2.2.1
  have hw := hT.hts args
  obtain ⟨mk, methM, cM, hnamed, hmethM, -, -, -, -, -, -, hsigM⟩ := cw_spec (hw _ hok.1)
  have hstatic : methM.isStatic = true := Cond.static_spec hnamed hmethM (hw _ hst)
  obtain ⟨kP, hkP, -⟩ := className_of_methodNamed hnamed
  have hinitP : kP.init = .initialized := Cond.initialized_spec (findClass_of_methodNamed hnamed) hkP (hw _ hok.2.1)
  have hlen : (as.map (cv ad)).length = methM.sig.parameters.length := by
    have h2 := hn
    unfold nP at h2
    rw [hsigM] at h2
    rw [List.length_map]
    exact (Option.some.inj h2).symm
  obtain ⟨vm₁, X₁, hstep₁⟩ := X.invokestaticNest C.1 C.2.2.2.2.2.2.1 (va_Nw.use rfl (hT.2.1 _ hl)) hnamed hmethM hstatic hkP hinitP hok.2.2.2.2 (g := F0 mid pc ls ((as.reverse ++ st).map (cv ad))) rfl (argsL := as.map (cv ad)) (rest := st.map (cv ad)) hlen (cv_rev ad as st) (by rw [C.2.1]; exact hd)
  exact ⟨⟨_, by rw [C.2.1]; exact hd⟩, T.setVm vm₁, mk, rfl, X₁, X₁.named hnamed, fun target h => hstep₁ _ fun acts => by rw [doInvoke_state]; exact h⟩
theorem inv_V {idx ci : Nat} {k : KK} (hd : decode (mB mi) pc = .ok (.invokevirtual idx, 3)) (hok : MOK m2) (hl : Cond.methodLink (mO mi) idx (mY m2) ∈ GW) (hin : Cond.instanceMethod (mY m2) ∈ GW) (hse : Cond.selects (mY m2).cls (mY m2) (mY m2) ∈ GW) (h7 : ci < 7) (hsh : shp k = (0, ci)) (hc : (mY m2).cls = cnm ci) (hn : nP m2 as.length) (hs : stk = as.reverse ++ vR (some k) :: st) : INV G l mi pc (mY m2) (vR (some k) :: as) stk st M := by
  subst hs
  refine ⟨⟨fun v h => by simp at h ⊢; first | exact Or.inl h | (rcases h with h | h; exact Or.inr (Or.inl h); exact Or.inl h), fun v h => by simp; first | exact Or.inr h | exact Or.inr (Or.inr h)⟩, ?_⟩
  intro p e R s mid args below meth c B C T locs cells slots ls ad X hR hk
  have hT := C.2.2.2.2.2.2.2.2.1
  have hw := hT.hts args
  have hal : al M k := al_of (hk (vR (some k)) (by simp)) (by rw [hsh]; simp)
  obtain ⟨n, hn0, hk0, hat⟩ := HR.obj (G := G) (B := B) (H := T.heap) (ad := ad) hsh hal
  obtain ⟨cellB, hcell, hobj, hcls⟩ := va_recv hT.2.2.1 hR.1 (cls_at ci h7) hat
  obtain ⟨mk, methM, hnamed, hmethM, hstM, habM⟩ := Cond.instanceMethod_spec (hw _ hin)
  obtain ⟨mk', methM', cM, hnamed', hmethM', -, -, -, -, -, -, hsigM⟩ := cw_spec (hw _ hok.1)
  cases Option.some.inj (hnamed.symm.trans hnamed')
  cases Option.some.inj (hmethM.symm.trans hmethM')
  obtain ⟨c2, r2, m2', q1, q2, q3, q4, kP, hkP, hkPi⟩ := Cond.selects_spec (hw _ hse)
  rw [hc] at q1
  cases hcls.symm.trans q1
  cases (State.methodFound?_of_named hnamed hok.2.2.2.2).symm.trans q2
  cases hnamed.symm.trans q3
  have hselP : selectMethod e.platform s.vm cellB.cls mk = .method mk := by rw [Launch.admits_selectMethod X.admits]; exact q4
  have hlen : (as.map (cv ad)).length = methM.sig.parameters.length := by
    have h2 := hn
    unfold nP at h2
    rw [hsigM] at h2
    rw [List.length_map]
    exact (Option.some.inj h2).symm
  obtain ⟨vm₁, X₁, hstep₁⟩ := X.invokevirtual C.1 C.2.2.2.2.2.2.1 (hw _ hl) hnamed hmethM hstM hkP hkPi hok.2.2.2.2 (a := ad k) (cell := cellB) hcell
    (fun z h => by rw [h] at hobj; cases hobj) hselP hmethM habM hkP hkPi (g := F0 mid pc ls ((as.reverse ++ vR (some k) :: st).map (cv ad))) rfl (argsL := as.map (cv ad)) (rest := st.map (cv ad)) hlen (cv_rev ad as _) (by rw [C.2.1]; exact hd)
  exact ⟨⟨_, by rw [C.2.1]; exact hd⟩, T.setVm vm₁, mk, rfl, X₁, X₁.named hnamed, fun target h => hstep₁ _ fun acts => by rw [doInvoke_state]; exact h⟩
theorem inv_I {idx : Nat} {k : KK} (hd : decode (mB mi) pc = .ok (.invokespecial idx, 3)) (hok : MOK m2) (hH : mH m2 = []) (hT0 : mT m2 = none) (hnm : (mY m2).name = "<init>") (hl : Cond.methodLink (mO mi) idx (mY m2) ∈ GW) (hin : Cond.instanceMethod (mY m2) ∈ GW) (hn : nP m2 as.length) (hs : stk = as.reverse ++ vR (some k) :: st) : INV G l mi pc (mY m2) (vR (some k) :: as) stk st M := by
  subst hs
  refine ⟨⟨fun v h => by simp at h ⊢; first | exact Or.inl h | (rcases h with h | h; exact Or.inr (Or.inl h); exact Or.inl h), fun v h => by simp; first | exact Or.inr h | exact Or.inr (Or.inr h)⟩, ?_⟩
  intro p e R s mid args below meth c B C T locs cells slots ls ad X hR hk
  have hT := C.2.2.2.2.2.2.2.2.1
  have hw := hT.hts args
  have hpl : e.platform.magicAccessors = ({} : Platform).magicAccessors := by rw [X.admits.platform]
  have hcode : (Cond.code (mY m2) (mB m2) (mL m2) none).before args s = true := by
    have h1 := hw _ hok.1
    unfold cw at h1
    rw [hH, hT0] at h1
    exact h1
  obtain ⟨mk, methM, cM, kP, vm₁, hnamed, hmethM, hcodeM, -, hlocalsM, -, hkP, -, hW₁, hstep₁⟩ := Steps.initColdArgs (e := e) X.here C.1 X.warmed hpl C.2.2.2.2.2.2.1 hnm hok.2.2.2.2 (hw _ hl) (hw _ hin) hcode (f := F0 mid pc ls ((as.reverse ++ vR (some k) :: st).map (cv ad))) rfl (a := ad k) (argsL := as.map (cv ad)) (rest := st.map (cv ad)) (fun sig h => by
    have h2 := hn
    unfold nP at h2
    rw [h] at h2
    rw [List.length_map]
    exact (Option.some.inj h2).symm) (cv_rev ad as _) (by rw [C.2.1]; exact hd)
  have X₁ := X.noted hW₁
  exact ⟨⟨_, by rw [C.2.1]; exact hd⟩, T.setVm vm₁, mk, rfl, X₁, X₁.named hnamed, fun target h => hstep₁ _ fun acts => by rw [doInvoke_state]; exact h⟩
/-! the callee's entry -/
theorem ldL_pad : ∀ (n : Nat) (L : List (Option PV)) (i : Nat) (v : PV), ldL (padL n L) i = some v → ldL L i = some v
  | 0, L, i, v, h => by simp [padL, ldL] at h
  | n + 1, [], i, v, h => by
    cases i with
    | zero => simp [padL, ldL] at h
    | succ i => have := ldL_pad n [] i v (by simpa [padL, ldL] using h); simp [ldL] at this
  | n + 1, x :: r, i, v, h => by
    cases i with
    | zero => simpa [padL, ldL] using h
    | succ i => exact ldL_pad n r i v (by simpa [padL, ldL] using h)
theorem ldL_ent (ad : KK → Nat) : ∀ (as : List PV) (b i : Nat) (v : PV), ldL (entL as) i = some v → (b + i, cv ad v) ∈ lv_args b (as.map (cv ad))
  | [], b, i, v, h => by simp [entL, ldL] at h
  | a :: as, b, i, v, h => by
    rw [List.map_cons]
    unfold lv_args
    cases i with
    | zero =>
      have : a = v := by simpa [entL, ldL] using h
      subst this
      exact List.mem_cons_self
    | succ i =>
      refine List.mem_cons_of_mem _ ?_
      rw [cv_cat]
      by_cases c2 : cat a = 2
      · rw [if_pos c2]
        have h1 : ldL (none :: entL as) i = some v := by simpa [entL, ldL, c2] using h
        cases i with
        | zero => simp [ldL] at h1
        | succ i =>
          have := ldL_ent ad as (b + 2) i v (by simpa [ldL] using h1)
          rw [show b + (i + 1 + 1) = b + 2 + i by omega]
          exact this
      · rw [if_neg c2]
        have h1 : ldL (entL as) i = some v := by
          have h0 : ldL (match cat a with | 2 => none :: entL as | _ => entL as) i = some v := by simpa [entL, ldL] using h
          split at h0
          · rename_i q; exact absurd q c2
          · exact h0
        have := ldL_ent ad as (b + 1) i v h1
        rw [show b + (i + 1) = b + 1 + i by omega]
        exact this
theorem lg_len (ad : KK → Nat) : ∀ as : List PV, (lg_sl (as.map (cv ad))).length = (entL as).length
  | [] => rfl
  | a :: as => by
    have h := lg_len ad as
    unfold lg_sl at h ⊢
    rw [List.map_cons, List.flatMap_cons, List.length_append, h, cv_cat]
    rcases a with x | x | x <;> simp [entL, cat] <;> omega
theorem LR_ent {ad : KK → Nat} {n : Nat} (hn : (entL as).length ≤ n) : LR ad (padL n (entL as)) ((lg_sl (as.map (cv ad)) ++ List.replicate (n - (lg_sl (as.map (cv ad))).length) Slot.unset).toArray) n :=
  LR_of (lv_entry _ (by rw [lg_len]; exact hn)) fun i v h => by
    have := ldL_ent ad as 0 i v (ldL_pad _ _ _ _ h)
    rwa [Nat.zero_add] at this
theorem okL_ent {n : Nat} (h : ∀ v ∈ as, okv M v) : okL M (padL n (entL as)) := fun i v hv => by
  have h1 := ldL_ent (fun _ => 0) as 0 i v (ldL_pad _ _ _ _ hv)
  have key : ∀ (as : List PV) (i : Nat), ldL (entL as) i = some v → v ∈ as := by
    intro as
    induction as with
    | nil => intro i h; simp [entL, ldL] at h
    | cons a as ih =>
      intro i h
      cases i with
      | zero =>
        have : a = v := by simpa [entL, ldL] using h
        subst this
        exact List.mem_cons_self
      | succ i =>
        refine List.mem_cons_of_mem _ ?_
        simp only [entL, ldL] at h
        split at h
        · cases i with
          | zero => simp [ldL] at h
          | succ i => exact ih i (by simpa [ldL] using h)
        · exact ih i h
  exact h v (key as i (ldL_pad _ _ _ _ hv))
theorem st_weaken {tb : Tables} {e : Env} {mid below : List Frame} {a b : State} (h : Steps tb e (mid ++ below) a b) : Steps tb e below a b := by
  obtain ⟨n, hn, w⟩ := h
  exact ⟨n, hn, fun k hk => (w k hk).weaken⟩
/-- the room that a method is called with -/
abbrev rmOf (m : MI) (c s : Nat) : Room := { frames := mF m, cells := c, slots := s, locals := mW m }
/-- the invocation comes to the callee's end -/
theorem call_core {p : Program} {e : Env} {R : Room} {s : State} {mid : MethodId} {args : Array Value} {below : List Frame} {meth : Method} {c : Code} {B : Heap} (C : CX G l mi p R s mid meth c B) {T1 : State} {locs : List Loc} {cells slots : Nat} {ls : Array Slot} {ad : KK → Nat} (X : Stand p l e R s mid args below meth c T1 locs cells slots)
    (hS : va_S (fun q => B.size ≤ q) B T1.heap locs) (hR : HR G B ad M T1.heap) (hok : MOK m2) {mk : MethodId} (hn : T1.methodNamed? (mY m2) = some mk) (hls : ls.size = mL mi) {ig : Instr} (hdg : decode c.code pc = .ok (ig, 3)) (has : ∀ v ∈ as, okv M v) (hent : (entL as).length ≤ mL m2)
    (hPM : PM G l m2 as M o M2 c1 s1) (hf : mF m2 + 1 ≤ mF mi) (hw : (st.map cat).sum + (mL m2 + 11) + mW m2 ≤ mW mi) (hc : cells + c1 ≤ R.cells) (hs : slots + s1 ≤ R.slots) :
    ∃ t, Steps p.tables e below (doInvoke e (T1.setTop (F0 mid pc ls (st.map (cv ad)))) [] mk (as.map (cv ad)).toArray).1 t ∧
      (T1.calling (F0 mid pc ls (st.map (cv ad))) mk (as.map (cv ad)).toArray).vm = T1.vm ∧ pE G B (.java (F0 mid pc ls (st.map (cv ad))) :: below) (T1.calling (F0 mid pc ls (st.map (cv ad))) mk (as.map (cv ad)).toArray) ad M.2.2.2 o M2 c1 s1 t := by
  have hT := C.2.2.2.2.2.2.2.2.1
  have hT1 : TB G T1 := hT.warm X.warmed
  obtain ⟨mk', methk, ck, hn', hmk, hck, hbk, hlk, hrk, hlock, htab, hsig⟩ := cw_spec (hT1.hts args _ hok.1)
  cases Option.some.inj (hn.symm.trans hn')
  have hfr := C.2.2.2.2.2.2.2.2.2.2.1
  have hlo := C.2.2.2.2.2.2.2.2.2.2.2.1
  obtain ⟨Y0, hin⟩ := X.into (g := F0 mid pc ls (st.map (cv ad))) rfl (hls.trans C.2.2.1.symm) hdg (as.map (cv ad)).toArray (R' := rmOf m2 c1 s1) hmk hck hlock (State.plainMethod.of_named hok.2.2.2.1 hn hmk) (Nat.le_trans hf hfr) (by
    rw [cv_cats, hlk]
    show 2 * 0 + _ + _ + mW m2 ≤ _
    omega) hc hs
  have hvm : (T1.calling (F0 mid pc ls (st.map (cv ad))) mk (as.map (cv ad)).toArray).vm = T1.vm := rfl
  have hhp : (T1.calling (F0 mid pc ls (st.map (cv ad))) mk (as.map (cv ad)).toArray).heap = T1.heap := rfl
  have hWs : s.WarmedH (T1.calling (F0 mid pc ls (st.map (cv ad))) mk (as.map (cv ad)).toArray).vm := X.warmed
  have C' : CX G l m2 p (rmOf m2 c1 s1) (T1.calling (F0 mid pc ls (st.map (cv ad))) mk (as.map (cv ad)).toArray) mk methk ck B :=
    ⟨C.1, hbk, hlk, hrk, hlock, htab, by rw [hok.2.2.1]; exact findClass_of_methodNamed (s := T1) hn, (name_of_methodNamed hn hmk).1, hT.warm hWs, C.2.2.2.2.2.2.2.2.2.1.moved hWs.alike, Nat.le_refl _, Nat.le_refl _, C.2.2.2.2.2.2.2.2.2.2.2.2.1, va_X.moved hWs.alike C.2.2.2.2.2.2.2.2.2.2.2.2.2.1, C.2.2.2.2.2.2.2.2.2.2.2.2.2.2⟩
  have D' : DX G m2 (rmOf m2 c1 s1) B M (padL (mL m2) (entL as)) [] c1 s1 T1.heap [] 0 0 ((lg_sl (as.map (cv ad)) ++ List.replicate (mL m2 - (lg_sl (as.map (cv ad))).length) Slot.unset).toArray) ad :=
    ⟨⟨by show 0 + c1 ≤ c1; omega, by show 0 + s1 ≤ s1; omega⟩, ⟨hS.1, hS.2.1, fun _ h => by cases h⟩, hR, LR_ent hent, okL_ent has, fun _ h => by cases h⟩
  obtain ⟨t, ht, hE⟩ := hPM p e (rmOf m2 c1 s1) _ mk (as.map (cv ad)).toArray (.java (F0 mid pc ls (st.map (cv ad))) :: below) methk ck B C' T1.heap [] 0 0 _ ad D' ((T1.setTop (F0 mid pc ls (st.map (cv ad)))).pushFrame (.java (entryFrame mk (as.map (cv ad)).toArray ck.maxLocals))) rfl Y0
  refine ⟨t, ?_, hvm, ?_⟩
  · rw [hin []]
    rw [hlk, lg_entry_eq]
    exact st_weaken (mid := [.java (F0 mid pc ls (st.map (cv ad)))]) (by rw [hlk, lg_entry_eq] at ht; exact ht)
  · rw [Nat.zero_add, Nat.zero_add] at hE
    exact hE
end PC
