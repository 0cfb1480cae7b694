/-! from the entry -/
theorem ins_all : ∀ ci, ci < 7 → Cond.instantiable (cnm ci) (nfl ci) ∈ GW := by
  intro ci h
  match ci, h with
  | 0, _ => exact gw_of 62 (by decide +kernel) (by decide +kernel)
  | 1, _ => exact gw_of 70 (by decide +kernel) (by decide +kernel)
  | 2, _ => exact gw_of 86 (by decide +kernel) (by decide +kernel)
  | 3, _ => exact gw_of 133 (by decide +kernel) (by decide +kernel)
  | 4, _ => exact gw_of 193 (by decide +kernel) (by decide +kernel)
  | 5, _ => exact gw_of 199 (by decide +kernel) (by decide +kernel)
  | 6, _ => exact gw_of 798 (by decide +kernel) (by decide +kernel)
  | n + 7, h => omega
theorem cls_len : classes.length = 7 := rfl
theorem ZS_of {C n d : String} {s : State} {args : Array Value} (hl : (Cond.laysStatic C n d).before args s = true) (hr : (Cond.isRef (.static C n d)).before args s = true) : ZS C n d s.heap s := by
  obtain ⟨c, k, i, f, a, cell, h1, h2, h3, h4, h5, h6, h7, h8, h9⟩ := Cond.laysStatic_spec (show (Cond.laysStatic C n d).holds args s none s [] = true from hl)
  have hu : cell.vm ≠ .unknown := fun q => by rw [q] at h6; cases h6
  have h10 : cell.slots[f.slot]? = some cell.slots[f.slot] := Array.getElem?_eq_getElem h8
  have he : (Term.static C n d).eval args s none [] s = some cell.slots[f.slot] := by
    simp [Term.eval, State.fieldNamed?, h2, h3, h4, h5, hu, h10, h6]
  refine ⟨c, k, i, f, a, cell, cell.slots[f.slot], h1, h2, h3, h4, h5, h6, h7, h9, h10, ?_⟩
  simp only [Cond.before, Cond.holds, Cond.value, he] at hr
  cases hv : cell.slots[f.slot] <;> rw [hv] at hr <;> first | rfl | (simp at hr)
theorem XS_in : ∀ q ∈ XS, q.1 = "TimeKeeper" ∧ Cond.stringRef q.1 q.2.1 q.2.2 ∈ lw_tbl := by decide +kernel
theorem TB_of {b L : Nat} {xs : Nat → Int32} {s : State} {args : Array Value} (hts : ∀ w ∈ lw_tbl, w.before args s = true) (hgv : (Jvm.Cond.and given_1 narrow_1).before args s = true) : ∃ (D : va_G) (ids : Nat → ClassId), TB (D, ids, b, L, xs) s := by
  have hg : ∀ w ∈ GW, w.before args s = true := fun w hw => hts w (List.mem_filter.mp hw).1
  have hk : ∀ ci, ∃ q : ClassId × (Nat → Nat), ci < 7 → u_Kn s (cnm ci) (cT ci) (nfl ci) q.1 q.2 := fun ci => by
    by_cases h : ci < 7
    · obtain ⟨cC, iS, hK⟩ := u_known (ws := GW) hg (cls_in ci h) (hg _ (ins_all ci h))
      exact ⟨(cC, iS), fun _ => hK⟩
    · exact ⟨(0, fun _ => 0), fun z => absurd z h⟩
  obtain ⟨cI, kI, pI, i1, i2, i3⟩ := Cond.arrayClass_spec (show (Cond.arrayClass .int).holds args s none s [] = true from hg (.arrayClass .int) (gw_of 84 (by decide +kernel) (by decide +kernel)))
  obtain ⟨cJ, kJ, pJ, j1, j2, j3⟩ := Cond.arrayClass_spec (show (Cond.arrayClass .long).holds args s none s [] = true from hg (.arrayClass .long) (gw_of 191 (by decide +kernel) (by decide +kernel)))
  have hao : (Cond.arrayOver (.object "TimeKeeper$Peer")).before args s = true := hts _ (by decide +kernel)
  obtain ⟨pP, cP, kP, o1, o2, o3, o4, o5⟩ := Cond.arrayOver_spec (show (Cond.arrayOver (.object "TimeKeeper$Peer")).holds args s none s [] = true from hao)
  have hn := flat_of_before _ hgv
  have hTK := Classical.choose_spec (hk 0) (by decide)
  refine ⟨(fun ci => (Classical.choose (hk ci)).1, fun ci => (Classical.choose (hk ci)).2), fun | 0 => cI | 1 => cJ | _ => cP, fun w hw => word_at (State.WarmedH.refl s) (good_of_word (List.mem_filter.mp hw).2) (hg w hw), fun w hw => va_Nw.of (NW_ot w hw) (hts w (NW_in w hw)), ⟨fun c q hq => ?_, fun k q hq => ?_⟩, fun q hq => ?_, fun e => ?_, fun q hq => ?_, va_AO.of hao⟩
  · have hc : c < 7 := by
      have := (List.getElem?_eq_some_iff.mp hq).1
      rw [cls_len] at this
      exact this
    rw [cls_at c hc] at hq
    cases hq
    exact Classical.choose_spec (hk c) hc
  · match k, hq with
    | 0, hq =>
      cases hq
      exact ⟨fun n z => ⟨fun k h => (by cases h), kI, i2, pI, i3⟩, i1⟩
    | 1, hq =>
      cases hq
      exact ⟨fun n z => ⟨fun k h => (by cases h), kJ, j2, pJ, j3⟩, j1⟩
    | 2, hq =>
      cases hq
      exact ⟨fun n z => ⟨fun k h => (by cases h), kP, o3, pP, o4⟩, kP, pP, o3, o4, o1, o5⟩
    | k + 3, hq => simp [tyl] at hq
  · obtain ⟨h1, h2⟩ := XS_in q hq
    have h3 := hts _ h2
    obtain ⟨_, _, _, a, _, _, _, _, _, h4⟩ := Cond.stringRef_spec (show s.vm.findClass q.1 = some _ by rw [h1]; exact hTK.2.1) (show (Cond.stringRef q.1 q.2.1 q.2.2).holds args s none s [] = true from h3)
    exact ⟨a, vk_R.of h3 h4⟩
  · match e with
    | 0 => exact va_Nw.of rfl (hts _ (by decide +kernel))
    | 1 => exact va_Nw.of rfl (hts _ (by decide +kernel))
    | n + 2 => exact va_Nw.of rfl (hts (.castable "java/lang/IndexOutOfBoundsException" "java/lang/IndexOutOfBoundsException") (by decide +kernel))
  · simp only [XP, List.mem_cons, List.not_mem_nil, or_false] at hq
    rcases hq with rfl | rfl | rfl | rfl | rfl | rfl
    · exact va_Nc.of (hn (.not (.castable "java/lang/IllegalArgumentException" "java/lang/IllegalStateException")) (by decide +kernel))
    · exact va_Nc.of (hn (.not (.castable "java/lang/IllegalArgumentException" "java/lang/IndexOutOfBoundsException")) (by decide +kernel))
    · exact va_Nc.of (hn (.not (.castable "java/lang/IllegalStateException" "java/lang/IllegalArgumentException")) (by decide +kernel))
    · exact va_Nc.of (hn (.not (.castable "java/lang/IllegalStateException" "java/lang/IndexOutOfBoundsException")) (by decide +kernel))
    · exact va_Nc.of (hn (.not (.castable "java/lang/IndexOutOfBoundsException" "java/lang/IllegalArgumentException")) (by decide +kernel))
    · exact va_Nc.of (hn (.not (.castable "java/lang/IndexOutOfBoundsException" "java/lang/IllegalStateException")) (by decide +kernel))
theorem EX_of {s : State} {args : Array Value} (hts : ∀ w ∈ lw_tbl, w.before args s = true) (hgv : (Jvm.Cond.and given_1 narrow_1).before args s = true) : EX s.heap s := by
  have hn := flat_of_before _ hgv
  exact ⟨ZS_of (hts (.laysStatic "java/lang/Throwable" "UNASSIGNED_STACK" "[Ljava/lang/StackTraceElement;") (by decide +kernel)) (hn (.isRef (.static "java/lang/Throwable" "UNASSIGNED_STACK" "[Ljava/lang/StackTraceElement;")) (by decide +kernel)), ZS_of (hts (.laysStatic "java/lang/Throwable" "SUPPRESSED_SENTINEL" "Ljava/util/List;") (by decide +kernel)) (hn (.isRef (.static "java/lang/Throwable" "SUPPRESSED_SENTINEL" "Ljava/util/List;")) (by decide +kernel))⟩
def R_law : String := "TimeKeeperLaw"
def lw_P (b : Addr) (xs : List Int32) (args : Array Value) (s : State) : Prop := args = #[.ref b] ∧ s.IntsAt b xs ∧ xs.length ≤ 6656 ∧ (Jvm.Cond.and given_1 narrow_1).before args s = true
def lw_Q (_ : Array Value) (s : State) (o : Outcome) (t : State) : Prop := o = .returned (some (.int 1)) ∧ Framed s o t [] 601024 7293034
def lw_Z (below : List Frame) (a : Array Value) (s : State) : State → Prop := fun t => ∃ o, t.status = .running ∧ Ended t below o ∧ lw_Q a s o t
def lw_At (p : Program) (s : State) (m : MethodId) (meth : Method) (c : Code) (b L : Nat) (xs : Nat → Int32) : Prop :=
  p.tables.exec = Jvm.exec ∧ c.code = code ∧ meth.sig.returnType = ret ∧ c.maxLocals = 8 ∧ s.vm.findClass R_law = some m.cls ∧ (∀ w ∈ lw_tbl, w.before #[Value.ref b] s = true) ∧ va_X b L xs s s.heap ∧ b < s.heap.size ∧ meth.locks = false ∧ (Jvm.Cond.and given_1 narrow_1).before #[Value.ref b] s = true ∧ c.exceptionTable.toList = [] ∧ meth.name = "law"
theorem whole_start {p : Program} {e : Env} {s : State} {m : MethodId} {below : List Frame} {meth : Method} {c : Code} (l : Launch) (htr : l.stackTraces = false) {b L : Nat} {xs : Nat → Int32} (hL : L ≤ 6656) (C0 : lw_At p s m meth c b L xs) : W p l e room_1 s m #[Value.ref b] below meth c s.heap [] 0 0 (lw_Z below #[Value.ref b] s) (entryFrame m ([Value.ref b] : List Value).toArray 8) := by
  obtain ⟨hx, hcode, hret, hml, hown, hts, hX, hbl, hlk, hgv, htab, hnm⟩ := C0
  obtain ⟨D, ids, hTB⟩ := TB_of (b := b) (L := L) (xs := xs) hts hgv
  obtain ⟨M', hPM⟩ := law_pm (G := (D, ids, b, L, xs)) (l := l) hL
  have hC : CX (D, ids, b, L, xs) l m_LW_law p room_1 s m meth c s.heap := ⟨hx, hcode, hml, hret, hlk, htab, hown, hnm, hTB, EX_of hts hgv, by decide, by decide, htr, hX, hbl⟩
  have hD : DX (D, ids, b, L, xs) m_LW_law room_1 s.heap (nf (fun _ _ => 0) rf 0) (padL (mL m_LW_law) (entL [vR (some SK)])) [] 601024 7293034 s.heap [] 0 0 ((lg_sl ([vR (some SK)].map (cv (fun _ => b))) ++ List.replicate (8 - (lg_sl ([vR (some SK)].map (cv (fun _ => b)))).length) Slot.unset).toArray) (fun _ => b) :=
    ⟨⟨by decide, by decide⟩, ⟨Nat.le_refl _, fun _ _ _ => rfl, fun _ h => by cases h⟩, ⟨fun k q h => by simp [wl, nf] at h, ⟨fun i j p q h => by simp [wl, nf] at h, fun k q h => by simp [wl, nf] at h⟩, fun k j k' h => by obtain ⟨n, hn, _⟩ := h; exact absurd hn (Nat.not_lt_zero _), by decide, rfl⟩, LR_ent (by decide), okL_ent (fun v hv k hk => by
      rw [List.mem_singleton] at hv
      subst hv
      cases hk
      exact Or.inl rfl), fun _ h => by cases h⟩
  have h := hPM p e room_1 s m #[Value.ref b] below meth c s.heap hC s.heap [] 0 0 _ (fun _ => b) hD
  rw [lg_entry_eq]
  refine W_mono h ?_
  rintro t ⟨out, ad', Ls, a1, a2, a3, a4, a5, a6, a7, a8, a9⟩
  obtain ⟨rfl, _⟩ := a9
  obtain ⟨s1, s2, s3, s4, s5, s6⟩ := a4
  refine ⟨_, a1, a2, rfl, ⟨_, rfl⟩, a3, s1, s2, by omega, s4, by omega, fun a cl hc => ?_⟩
  have hlt : a < s.heap.size := (Array.getElem?_eq_some_iff.mp hc).1
  exact ⟨cl, (a5.2.1 a hlt (Nat.not_le.mpr hlt)).trans hc, rfl, rfl, fun _ _ => rfl⟩
set_option maxHeartbeats 4000000 in
theorem lw_walk (l : Launch) (htr : l.stackTraces = false) (b : Addr) (xs : List Int32) : MetFree l x (headSpec (Jvm.Cond.code x code maxLocals ret :: tables_1) room_1) (lw_P b xs) (fun _ _ _ _ _ => True) lw_Q := by
  refine MetFree.of_bodyS (code := code) (maxLocals := maxLocals) (ret := ret) (by decide) ?_ ?_
  · intro args s m h hn
    obtain ⟨meth, c, h1, h2, h3, h4, h5, h6, -, -⟩ := Cond.code_spec hn (atoms_spec (ws := Jvm.Cond.code x code maxLocals ret :: tables_1) h _ List.mem_cons_self)
    exact ⟨meth, c, h1, h2, h3, h4, h5, h6⟩
  · intro p e s m args below meth c s₁ B hml0 hP _
    obtain ⟨rfl, hx, hbd, hgv⟩ := hP
    obtain ⟨scr, harrAt, hlist, hof, hsmall⟩ := hx
    obtain ⟨hcb, hkn, -, -⟩ := State.arrayAt?_spec harrAt
    have hown : s.vm.findClass R_law = some m.cls := findClass_of_methodNamed B.named
    have hts0 : ∀ c ∈ (Jvm.Cond.code x code maxLocals ret :: tables_1), c.before #[Value.ref b] s = true := atoms_spec (ws := Jvm.Cond.code x code maxLocals ret :: tables_1) B.pre
    have hts : ∀ w ∈ lw_tbl, w.before #[Value.ref b] s = true := k2_hts_sels lw_privs (fun w hw => hts0 w (List.mem_cons_of_mem _ hw)) lw_privs_ok
    have hml : c.maxLocals = 8 := B.maxLocals_eq (hts0 _ List.mem_cons_self)
    have htab : c.exceptionTable.toList = [] := by
      obtain ⟨meth', c', hm', hc', _, _, _, _, he, _⟩ := Cond.code_spec B.named (hts0 _ List.mem_cons_self)
      cases B.method.symm.trans hm'
      cases (Stand.of_body B).code.symm.trans hc'
      rw [Array.isEmpty_iff.mp he]
    have X₀ : Stand p l e room_1 s m #[Value.ref b] below meth c s₁ [] 0 0 := Stand.of_body B
    have hh0 : s₁.heap = s.heap := by rw [B.state]; rfl
    have hsz : scr.slots.size = xs.length := by rw [← Array.length_toList, hlist, List.length_map]
    have hval : ∀ j : Nat, j < xs.length → scr.slots[j]? = some (.int (xs.getD j 0)) := fun j hj => by
      rw [← Array.getElem?_toList, hlist]
      simp [hj]
    have hbl : b < s.heap.size := (Array.getElem?_eq_some_iff.mp hcb).1
    have hX : va_X b xs.length (fun j => xs.getD j 0) s s.heap := ⟨scr, hcb, hof, hkn, hsz, hval⟩
    have K : W p l e room_1 s m #[Value.ref b] below meth c s₁.heap [] 0 0 (lw_Z below #[Value.ref b] s) (entryFrame m ([Value.ref b] : List Value).toArray 8) := by
      rw [hh0]
      exact whole_start l htr hbd ⟨B.exec, B.bytes, B.returns, hml, hown, hts, hX, hbl, B.notSynchronized, hgv, htab, (name_of_methodNamed B.named B.method).1⟩
    obtain ⟨t, a1, o, b1, b2, b3⟩ := K s₁ rfl X₀
    exact ⟨t, o, a1, b1, b2, b3⟩
theorem lw_pre_spec {args : Array Value} {s : State} (h : (Jvm.Cond.and given_1 narrow_1).before args s = true) (hr : rest_1_c.before args s = true) : ∃ (b : Addr) (xs : List Int32), lw_P b xs args s := by
  have hs := flat_of_before _ h
  have hq := flat_of_before _ hr
  have hc : (Cond.count 1).before args s = true := hs _ (by decide +kernel)
  have harr : (Cond.arrayOf (.arg 0) .int).before args s = true := hs _ (by decide +kernel)
  have hle : (Cond.le (.length (.arg 0)) (.int 6656)).before args s = true := hs _ (by decide +kernel)
  have hlen : (Cond.isInt (.length (.arg 0))).before args s = true := hq _ (by decide +kernel)
  have hall : (Cond.all (.arg 0) (.isInt (.elem (.arg 0) (.index 0)))).before args s = true := hq _ (by decide +kernel)
  obtain ⟨b, xs, hb, hx⟩ := State.ints_of_pre rfl harr hlen hall
  have hsm : xs.length < 2 ^ 31 := hx.choose_spec.2.2.2
  have hev : (Term.length (.arg 0)).eval args s none [] s = some (.int xs.length.toInt32) := hx.length_eval hb
  have hv := Cond.le_ints hev (show (Term.int 6656).eval args s none [] s = some (.int 6656) from rfl)
  have hd : xs.length.toInt32 ≤ 6656 := by
    simpa [Cond.before, Cond.holds, hv] using hle
  have hN : xs.length ≤ 6656 := (Int32.ofNat_le_ofNat hsm (by decide)).mp (show Int32.ofNat xs.length ≤ Int32.ofNat 6656 from hd)
  exact ⟨b, xs, Cond.one_arg hc (show args[0]? = some (.ref b) from hb), hx, hN, h⟩
theorem lw_comes (l : Launch) (htr : l.stackTraces = false) : Comes l x (Jvm.Cond.code x code maxLocals ret :: tables_1) room_1 (fun tb e args s => Calls_1 tb e args s ∧ rest_1 tb e args s ∧ Pre_1 tb e args s)
    (fun _ _ args s o t => lw_Q args s o t) := by
  intro p e ha hc hk s m args below hf hfit hheap happ hpre
  obtain ⟨b, xs, hP⟩ := lw_pre_spec hpre.2.2 hpre.2.1
  obtain ⟨k, o, h1, h2, h3, hQ⟩ := lw_walk l htr b xs p e ha hc hk s m args below hf ((Spec.applies_iff_loose hf).mp happ).1 hP trivial
  exact ⟨k, o, h1, h2, h3, hQ⟩
theorem lw_frame {s t : State} {o : Outcome} {args : Array Value} (h : Framed s o t [] 601024 7293034) :
    Framed s o t (fieldLocs frame_1_writes args s ++ arrayLocs frame_1_arrays args s ++ staticLocs frame_1_statics s) 601024 7293034 := h
theorem lw_limb (L : Cond) (hL : ∀ (args : Array Value) (s t : State), L.after args s (.returned (some (.int 1))) t = true) :
    ArmFor flags0 classFile x code maxLocals ret World_1 tables_1 room_1 Calls_1 rest_1 Pre_1
      (fun tb e a s o t => postC L tb e a s o t ∧ Framed s o t (fieldLocs frame_1_writes a s ++ arrayLocs frame_1_arrays a s ++ staticLocs frame_1_statics s) 601024 7293034) := by
  intro l hfl _ _ p e ha hc hk s m args below hf hfit hheap happ hpre
  have htr : l.stackTraces = false := by
    unfold Launch.stackTraces
    rw [hfl]
    decide
  obtain ⟨k, o, h1, h2, h3, rfl, hF⟩ := lw_comes l htr p e ha hc hk s m args below hf hfit hheap happ hpre
  exact ⟨k, _, h1, h2, h3, hL args s _, lw_frame hF⟩
theorem i_vc : Claimed_1_1 ∧ Claimed_1_2 := ⟨lw_limb limb_1_1 (fun args s t => by simp [limb_1_1, Cond.after, Cond.holds, Cond.value]), lw_limb limb_1_2 (fun args s t => Cond.after_iff.mpr (by
  first | (rw [show limb_1_2 = Cond.eq .result (.int 1) from rfl, Cond.eq_ints (x := 1) (y := 1) rfl rfl]; simp; done) | (simp [limb_1_2, Cond.value, Term.eval]; done)))⟩
