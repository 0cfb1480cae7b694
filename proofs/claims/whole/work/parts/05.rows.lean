/-! THE JUDGEMENT: from this pc, with these locals, stack and memory, the method ends with this outcome and memory -/
abbrev MI : Type := String × MethodName × ByteArray × Nat × Option FieldType × List (Nat × Nat × Nat × Nat) × Nat × Nat
abbrev mO (m : MI) : String := m.1
abbrev mY (m : MI) : MethodName := m.2.1
abbrev mB (m : MI) : ByteArray := m.2.2.1
abbrev mL (m : MI) : Nat := m.2.2.2.1
abbrev mT (m : MI) : Option FieldType := m.2.2.2.2.1
abbrev mH (m : MI) : List (Nat × Nat × Nat × Nat) := m.2.2.2.2.2.1
abbrev mF (m : MI) : Nat := m.2.2.2.2.2.2.1
abbrev mW (m : MI) : Nat := m.2.2.2.2.2.2.2
abbrev PO : Type := Option PV ⊕ Nat
abbrev rV : PO := .inl none
abbrev rI (x : Int32) : PO := .inl (some (vI x))
abbrev rL (x : Int64) : PO := .inl (some (vL x))
abbrev rR (k : Option KK) : PO := .inl (some (vR k))
abbrev tE (e : Nat) : PO := .inr e
def exN : Nat → String
  | 0 => "java/lang/IllegalArgumentException"
  | 1 => "java/lang/IllegalStateException"
  | _ => "java/lang/IndexOutOfBoundsException"
/-- a static field that lies in the first heap, and holds a reference or null -/
def ZS (C n d : String) (B : Heap) (U : State) : Prop := ∃ (c : ClassId) (k : Class) (i : Nat) (f : Field) (a : Nat) (cell : Cell) (v : Value), U.vm.findClass C = some c ∧ U.fieldFound? C n d = some (c, k, i, f) ∧ f.isStatic = true ∧ k.statics = some a ∧ B[a]? = some cell ∧ cell.vm.isStatics = true ∧ cell.cls = c ∧ k.staticTypes[f.slot]? = some f.type ∧ cell.slots[f.slot]? = some v ∧ v.isRef = true
/-- what the tables say: good words, nest mates' calls, the classes' numbers, texts, which exception is which -/
def TB (G : GG) (s : State) : Prop := (∀ w ∈ GW, va_Nw w s) ∧ (∀ w ∈ NW, va_Nw w s) ∧ va_K G.1 classes (tyl G) s ∧ (∀ q ∈ XS, ∃ a, vk_R q.1 q.2.1 q.2.2 a s) ∧ (∀ e, va_Nw (.castable (exN e) (exN e)) s) ∧ (∀ q ∈ XP, va_Nc (exN q.1) (exN q.2) s) ∧ va_AO "TimeKeeper$Peer" s
def EX (B : Heap) (s : State) : Prop := ZS Bundle.tN "UNASSIGNED_STACK" Bundle.steD B s ∧ ZS Bundle.tN "SUPPRESSED_SENTINEL" Bundle.listD B s
theorem cast_moved {A C : String} {s U : State} (hvm : s.vm.Alike U.vm) (h : va_Nw (.castable A C) s) : va_Nw (.castable A C) U := by
  simpa [va_Nw, Cond.before, Cond.holds, Cond.value, hvm.findClass, hvm.assignable] using h
theorem TB.warm {G : GG} {s U : State} (hW : s.WarmedH U.vm) (h : TB G s) : TB G U := by
  obtain ⟨h1, h2, h3, h4, h5, h6, h7⟩ := h
  refine ⟨fun w hw => word_at hW (good_of_word (List.mem_filter.mp hw).2) (h1 w hw), fun w hw => ?_, va_K.moved hW.alike h3, fun q hq => ?_, fun e => cast_moved hW.alike (h5 e), fun q hq => va_Nc.moved hW.alike (h6 q hq), va_AO.moved hW.alike h7⟩
  · have h := h2 w hw
    rcases NW_is w hw with ⟨a, i, x, b, rfl⟩ | ⟨x, rfl⟩
    · exact va_Nw.warmM hW h
    · exact va_Nw.warmD hW h
  · obtain ⟨a, ha⟩ := h4 q hq
    exact ⟨a, vk_R.warm hW ha⟩
theorem ZS.moved {C n d : String} {B : Heap} {u U : State} (hvm : u.vm.Alike U.vm) (h : ZS C n d B u) : ZS C n d B U := by
  obtain ⟨c, k, i, f, a, cell, v, h1, h2, h3, h4, h6, h7, h8, h9, h10, h11⟩ := h
  obtain ⟨k', hi', he⟩ := State.fieldFound?_setVm hvm h2
  exact ⟨c, k', i, f, a, cell, v, by rw [hvm.findClass]; exact h1, hi', h3, by rw [he]; exact h4, h6, h7, h8, by rw [he]; exact h9, h10, h11⟩
theorem EX.moved {B : Heap} {u U : State} (hvm : u.vm.Alike U.vm) (h : EX B u) : EX B U := ⟨h.1.moved hvm, h.2.moved hvm⟩
/-- what stays the same in a frame -/
def CX (G : GG) (l : Launch) (mi : MI) (p : Program) (R : Room) (s : State) (mid : MethodId) (meth : Method) (c : Code) (B : Heap) : Prop :=
  p.tables.exec = Jvm.exec ∧ c.code = mB mi ∧ c.maxLocals = mL mi ∧ meth.sig.returnType = mT mi ∧ meth.locks = false ∧ c.exceptionTable.toList = tableOf (mH mi) ∧ s.vm.findClass (mO mi) = some mid.cls ∧ meth.name = (mY mi).name ∧ TB G s ∧ EX B s ∧ mF mi ≤ R.frames ∧ mW mi ≤ R.locals ∧ l.stackTraces = false ∧ va_X G.2.2.1 G.2.2.2.1 G.2.2.2.2 s B ∧ G.2.2.1 < B.size
/-- what the heap, the locals and the stack hold now -/
def DX (G : GG) (mi : MI) (R : Room) (B : Heap) (M : Mem) (L : List (Option PV)) (st : List PV) (mc ms : Nat) (H : Heap) (locs : List Loc) (cells slots : Nat) (ls : Array Slot) (ad : KK → Nat) : Prop :=
  (cells + mc ≤ R.cells ∧ slots + ms ≤ R.slots) ∧ va_S (fun q => B.size ≤ q) B H locs ∧ HR G B ad M H ∧ LR ad L ls (mL mi) ∧ okL M L ∧ ∀ v ∈ st, okv M v
def oR (ad : KK → Nat) (s : State) (M : Mem) : PO → Outcome → State → Prop
  | .inl v, out, _ => out = .returned (v.map (cv ad)) ∧ ∀ w, v = some w → okv M w
  | .inr e, out, t => ∃ q ce, out = .threw q ∧ t.heap[q]? = some ce ∧ ce.vm = .none ∧ s.vm.findClass (exN e) = some ce.cls
def pE (G : GG) (B : Heap) (below : List Frame) (s : State) (ad : KK → Nat) (nx : Nat) (o : PO) (M' : Mem) (k n : Nat) (t : State) : Prop :=
  ∃ (out : Outcome) (ad' : KK → Nat) (Ls : List Loc), t.status = .running ∧ Ended t below out ∧ s.WarmedH t.vm ∧ s.sameButNew ({ t with vm := s.vm } : State) Ls k n ∧ va_S (fun q => B.size ≤ q) B t.heap Ls ∧ (∀ i, i < nx → ad' (nk i) = ad (nk i)) ∧ nx ≤ M'.2.2.2 ∧ HR G B ad' M' t.heap ∧ oR ad' s M' o out t
def PW (G : GG) (l : Launch) (mi : MI) (pc : Nat) (L : List (Option PV)) (st : List PV) (M : Mem) (o : PO) (M' : Mem) (mc ms : Nat) : Prop :=
  ∀ p e R s mid args below meth c B, CX G l mi p R s mid meth c B → ∀ H locs cells slots ls ad, DX G mi R B M L st mc ms H locs cells slots ls ad →
    W p l e R s mid args below meth c H locs cells slots (pE G B below s ad M.2.2.2 o M' (cells + mc) (slots + ms)) (F0 mid pc ls (st.map (cv ad)))
/-- a method from its entry -/
def PM (G : GG) (l : Launch) (mi : MI) (as : List PV) (M : Mem) (o : PO) (M' : Mem) (mc ms : Nat) : Prop := PW G l mi 0 (padL (mL mi) (entL as)) [] M o M' mc ms
section PR
variable {G : GG} {l : Launch} {mi : MI} {pc : Nat} {L : List (Option PV)} {st : List PV} {M M' : Mem} {o : PO} {mc ms : Nat}
theorem okI (x : Int32) : okv M (vI x) := fun _ h => by cases h
theorem okJ (x : Int64) : okv M (vL x) := fun _ h => by cases h
theorem okN : okv M (vR none) := fun _ h => by cases h
theorem okc {v : PV} (hv : okv M v) (h : ∀ w ∈ st, okv M w) : ∀ w ∈ v :: st, okv M w := fun w hw => (List.mem_cons.mp hw).elim (fun q => by rw [q]; exact hv) (h w)
theorem okt {v : PV} (h : ∀ w ∈ v :: st, okv M w) : ∀ w ∈ st, okv M w := fun w hw => h w (List.mem_cons_of_mem _ hw)
theorem okh {v : PV} (h : ∀ w ∈ v :: st, okv M w) : okv M v := h v List.mem_cons_self
theorem DX.stk {R : Room} {B : Heap} {st' : List PV} {H : Heap} {locs : List Loc} {cells slots : Nat} {ls : Array Slot} {ad : KK → Nat} (D : DX G mi R B M L st mc ms H locs cells slots ls ad) (h : ∀ v ∈ st', okv M v) : DX G mi R B M L st' mc ms H locs cells slots ls ad := ⟨D.1, D.2.1, D.2.2.1, D.2.2.2.1, D.2.2.2.2.1, h⟩
theorem DX.ok {R : Room} {B : Heap} {H : Heap} {locs : List Loc} {cells slots : Nat} {ls : Array Slot} {ad : KK → Nat} (D : DX G mi R B M L st mc ms H locs cells slots ls ad) : ∀ v ∈ st, okv M v := D.2.2.2.2.2
theorem DX.at {R : Room} {B : Heap} {H : Heap} {locs : List Loc} {cells slots : Nat} {ls : Array Slot} {ad : KK → Nat} (D : DX G mi R B M L st mc ms H locs cells slots ls ad) {i : Nat} {v : PV} (h : ldL L i = some v) : ls[i]? = some (.val (cv ad v)) := D.2.2.2.1.2.2 i v h
theorem DX.okat {R : Room} {B : Heap} {H : Heap} {locs : List Loc} {cells slots : Nat} {ls : Array Slot} {ad : KK → Nat} (D : DX G mi R B M L st mc ms H locs cells slots ls ad) {i : Nat} {v : PV} (h : ldL L i = some v) : okv M v := D.2.2.2.2.1 i v h
theorem DX.loc {R : Room} {B : Heap} {st' : List PV} {L' : List (Option PV)} {H : Heap} {locs : List Loc} {cells slots : Nat} {ls ls' : Array Slot} {ad : KK → Nat} (D : DX G mi R B M L st mc ms H locs cells slots ls ad) (h1 : LR ad L' ls' (mL mi)) (h2 : okL M L') (h : ∀ v ∈ st', okv M v) : DX G mi R B M L' st' mc ms H locs cells slots ls' ad := ⟨D.1, D.2.1, D.2.2.1, h1, h2, h⟩

theorem pw_iconst {n : Int} (v : Int32) (hd : decode (mB mi) pc = .ok (.iconst n, 1)) (hv : Int32.ofInt n = v)
    (h : PW G l mi (pc + 1) L (vI v :: st) M o M' mc ms) : PW G l mi pc L (st) M o M' mc ms := by
  intro p e R s mid args below meth c B C H locs cells slots ls ad D
  exact lv_iconst C.1 C.2.1 hd hv (h p e R s mid args below meth c B C H locs cells slots ls ad (D.stk (okc (okI _) D.ok)))
theorem pw_bipush {n : Int} (v : Int32) (hd : decode (mB mi) pc = .ok (.bipush n, 2)) (hv : (Int8.ofInt n).toInt32 = v)
    (h : PW G l mi (pc + 2) L (vI v :: st) M o M' mc ms) : PW G l mi pc L (st) M o M' mc ms := by
  intro p e R s mid args below meth c B C H locs cells slots ls ad D
  exact lv_bipush C.1 C.2.1 hd hv (h p e R s mid args below meth c B C H locs cells slots ls ad (D.stk (okc (okI _) D.ok)))
theorem pw_sipush {n : Int} (v : Int32) (hd : decode (mB mi) pc = .ok (.sipush n, 3)) (hv : (Int16.ofInt n).toInt32 = v)
    (h : PW G l mi (pc + 3) L (vI v :: st) M o M' mc ms) : PW G l mi pc L (st) M o M' mc ms := by
  intro p e R s mid args below meth c B C H locs cells slots ls ad D
  exact lv_sipush C.1 C.2.1 hd hv (h p e R s mid args below meth c B C H locs cells slots ls ad (D.stk (okc (okI _) D.ok)))
theorem pw_lconst {k : Fin 2} (v : Int64) (hd : decode (mB mi) pc = .ok (.lconst k, 1)) (hv : Int64.ofNat k.val = v)
    (h : PW G l mi (pc + 1) L (vL v :: st) M o M' mc ms) : PW G l mi pc L (st) M o M' mc ms := by
  intro p e R s mid args below meth c B C H locs cells slots ls ad D
  exact lv_lconst C.1 C.2.1 hd hv (h p e R s mid args below meth c B C H locs cells slots ls ad (D.stk (okc (okJ _) D.ok)))
theorem pw_aconst_null (hd : decode (mB mi) pc = .ok (.aconst_null, 1))
    (h : PW G l mi (pc + 1) L (vR none :: st) M o M' mc ms) : PW G l mi pc L (st) M o M' mc ms := by
  intro p e R s mid args below meth c B C H locs cells slots ls ad D
  exact lv_null C.1 C.2.1 hd (h p e R s mid args below meth c B C H locs cells slots ls ad (D.stk (okc okN D.ok)))
theorem pw_iload_n {k : Fin 4} {x : Int32} (hd : decode (mB mi) pc = .ok (.iload_n k, 1)) (hl : ldL L k.val = some (vI x))
    (h : PW G l mi (pc + 1) L (vI x :: st) M o M' mc ms) : PW G l mi pc L (st) M o M' mc ms := by
  intro p e R s mid args below meth c B C H locs cells slots ls ad D
  exact lv_iload_n C.1 C.2.1 hd rfl (D.at hl) (h p e R s mid args below meth c B C H locs cells slots ls ad (D.stk (okc (okI _) D.ok)))
theorem pw_iload {i : Nat} {x : Int32} (hd : decode (mB mi) pc = .ok (.iload i, 2)) (hl : ldL L i = some (vI x))
    (h : PW G l mi (pc + 2) L (vI x :: st) M o M' mc ms) : PW G l mi pc L (st) M o M' mc ms := by
  intro p e R s mid args below meth c B C H locs cells slots ls ad D
  exact lv_iload C.1 C.2.1 hd (D.at hl) (h p e R s mid args below meth c B C H locs cells slots ls ad (D.stk (okc (okI _) D.ok)))
theorem pw_lload_n {k : Fin 4} {x : Int64} (hd : decode (mB mi) pc = .ok (.lload_n k, 1)) (hl : ldL L k.val = some (vL x))
    (h : PW G l mi (pc + 1) L (vL x :: st) M o M' mc ms) : PW G l mi pc L (st) M o M' mc ms := by
  intro p e R s mid args below meth c B C H locs cells slots ls ad D
  exact lv_lload_n C.1 C.2.1 hd rfl (D.at hl) (h p e R s mid args below meth c B C H locs cells slots ls ad (D.stk (okc (okJ _) D.ok)))
theorem pw_lload {i : Nat} {x : Int64} (hd : decode (mB mi) pc = .ok (.lload i, 2)) (hl : ldL L i = some (vL x))
    (h : PW G l mi (pc + 2) L (vL x :: st) M o M' mc ms) : PW G l mi pc L (st) M o M' mc ms := by
  intro p e R s mid args below meth c B C H locs cells slots ls ad D
  exact lv_lload C.1 C.2.1 hd (D.at hl) (h p e R s mid args below meth c B C H locs cells slots ls ad (D.stk (okc (okJ _) D.ok)))
theorem pw_aload_n {k : Fin 4} {x : KK} (hd : decode (mB mi) pc = .ok (.aload_n k, 1)) (hl : ldL L k.val = some (vR (some x)))
    (h : PW G l mi (pc + 1) L (vR (some x) :: st) M o M' mc ms) : PW G l mi pc L (st) M o M' mc ms := by
  intro p e R s mid args below meth c B C H locs cells slots ls ad D
  exact lv_aload_n C.1 C.2.1 hd rfl (D.at hl) (h p e R s mid args below meth c B C H locs cells slots ls ad (D.stk (okc (D.okat hl) D.ok)))
theorem pw_aload {i : Nat} {x : KK} (hd : decode (mB mi) pc = .ok (.aload i, 2)) (hl : ldL L i = some (vR (some x)))
    (h : PW G l mi (pc + 2) L (vR (some x) :: st) M o M' mc ms) : PW G l mi pc L (st) M o M' mc ms := by
  intro p e R s mid args below meth c B C H locs cells slots ls ad D
  exact lv_aload C.1 C.2.1 hd (D.at hl) (h p e R s mid args below meth c B C H locs cells slots ls ad (D.stk (okc (D.okat hl) D.ok)))
theorem pw_istore_n {k : Fin 4} {x : Int32} (hd : decode (mB mi) pc = .ok (.istore_n k, 1)) (hn : k.val < mL mi)
    (h : PW G l mi (pc + 1) (stL L k.val (vI x)) st M o M' mc ms) : PW G l mi pc L (vI x :: st) M o M' mc ms := by
  intro p e R s mid args below meth c B C H locs cells slots ls ad D
  exact lv_istore_n C.1 C.2.1 hd rfl (LR_has D.2.2.2.1) hn rfl (fun ls2 hl2 => h p e R s mid args below meth c B C H locs cells slots ls2 ad (D.loc (LR_st (v := vI x) rfl hl2) (okL_st D.2.2.2.2.1 (okI _)) (okt D.ok)))
theorem pw_istore {i : Nat} {x : Int32} (hd : decode (mB mi) pc = .ok (.istore i, 2)) (hn : i < mL mi)
    (h : PW G l mi (pc + 2) (stL L i (vI x)) st M o M' mc ms) : PW G l mi pc L (vI x :: st) M o M' mc ms := by
  intro p e R s mid args below meth c B C H locs cells slots ls ad D
  exact lv_istore C.1 C.2.1 hd (LR_has D.2.2.2.1) hn rfl (fun ls2 hl2 => h p e R s mid args below meth c B C H locs cells slots ls2 ad (D.loc (LR_st (v := vI x) rfl hl2) (okL_st D.2.2.2.2.1 (okI _)) (okt D.ok)))
theorem pw_lstore_n {k : Fin 4} {x : Int64} (hd : decode (mB mi) pc = .ok (.lstore_n k, 1)) (hn : k.val + 1 < mL mi)
    (h : PW G l mi (pc + 1) (stL L k.val (vL x)) st M o M' mc ms) : PW G l mi pc L (vL x :: st) M o M' mc ms := by
  intro p e R s mid args below meth c B C H locs cells slots ls ad D
  exact lv_lstore_n C.1 C.2.1 hd rfl (LR_has D.2.2.2.1) hn rfl (fun ls2 hl2 => h p e R s mid args below meth c B C H locs cells slots ls2 ad (D.loc (LR_st2 (v := vL x) rfl hl2) (okL_st D.2.2.2.2.1 (okJ _)) (okt D.ok)))
theorem pw_lstore {i : Nat} {x : Int64} (hd : decode (mB mi) pc = .ok (.lstore i, 2)) (hn : i + 1 < mL mi)
    (h : PW G l mi (pc + 2) (stL L i (vL x)) st M o M' mc ms) : PW G l mi pc L (vL x :: st) M o M' mc ms := by
  intro p e R s mid args below meth c B C H locs cells slots ls ad D
  exact lv_lstore C.1 C.2.1 hd (LR_has D.2.2.2.1) hn rfl (fun ls2 hl2 => h p e R s mid args below meth c B C H locs cells slots ls2 ad (D.loc (LR_st2 (v := vL x) rfl hl2) (okL_st D.2.2.2.2.1 (okJ _)) (okt D.ok)))
theorem pw_astore_n {k : Fin 4} {x : KK} (hd : decode (mB mi) pc = .ok (.astore_n k, 1)) (hn : k.val < mL mi)
    (h : PW G l mi (pc + 1) (stL L k.val (vR (some x))) st M o M' mc ms) : PW G l mi pc L (vR (some x) :: st) M o M' mc ms := by
  intro p e R s mid args below meth c B C H locs cells slots ls ad D
  exact lv_astore_n C.1 C.2.1 hd rfl (LR_has D.2.2.2.1) hn rfl (fun ls2 hl2 => h p e R s mid args below meth c B C H locs cells slots ls2 ad (D.loc (LR_st (v := vR (some x)) rfl hl2) (okL_st D.2.2.2.2.1 (okh D.ok)) (okt D.ok)))
theorem pw_astore {i : Nat} {x : KK} (hd : decode (mB mi) pc = .ok (.astore i, 2)) (hn : i < mL mi)
    (h : PW G l mi (pc + 2) (stL L i (vR (some x))) st M o M' mc ms) : PW G l mi pc L (vR (some x) :: st) M o M' mc ms := by
  intro p e R s mid args below meth c B C H locs cells slots ls ad D
  exact lv_astore C.1 C.2.1 hd (LR_has D.2.2.2.1) hn rfl (fun ls2 hl2 => h p e R s mid args below meth c B C H locs cells slots ls2 ad (D.loc (LR_st (v := vR (some x)) rfl hl2) (okL_st D.2.2.2.2.1 (okh D.ok)) (okt D.ok)))
theorem pw_iinc {i : Nat} {n : Int} {x : Int32} (v : Int32) (hd : decode (mB mi) pc = .ok (.iinc i n, 3)) (hl : ldL L i = some (vI x)) (hv : Int32.ofInt n = v) (hn : i < mL mi)
    (h : PW G l mi (pc + 3) (stL L i (vI (x + v))) st M o M' mc ms) : PW G l mi pc L st M o M' mc ms := by
  subst hv
  intro p e R s mid args below meth c B C H locs cells slots ls ad D
  obtain ⟨k, hk⟩ := List.getElem?_of_mem (mem_asc.mpr ⟨_, hl, rfl⟩ : (i, cv ad (vI x)) ∈ asc ad L)
  exact lv_iinc C.1 C.2.1 hd (LR_has D.2.2.2.1) hk rfl hn rfl (fun ls2 hl2 => h p e R s mid args below meth c B C H locs cells slots ls2 ad (D.loc (LR_st (v := vI (x + Int32.ofInt n)) rfl hl2) (okL_st D.2.2.2.2.1 (okI _)) D.ok))
theorem pw_iadd {x y : Int32} (hd : decode (mB mi) pc = .ok (.iadd, 1))
    (h : PW G l mi (pc + 1) L (vI (x + y) :: st) M o M' mc ms) : PW G l mi pc L (vI y :: vI x :: st) M o M' mc ms := by
  intro p e R s mid args below meth c B C H locs cells slots ls ad D
  exact lv_iadd C.1 C.2.1 hd (h p e R s mid args below meth c B C H locs cells slots ls ad (D.stk (okc (okI _) (okt (okt D.ok)))))
theorem pw_isub {x y : Int32} (hd : decode (mB mi) pc = .ok (.isub, 1))
    (h : PW G l mi (pc + 1) L (vI (x - y) :: st) M o M' mc ms) : PW G l mi pc L (vI y :: vI x :: st) M o M' mc ms := by
  intro p e R s mid args below meth c B C H locs cells slots ls ad D
  exact lv_isub C.1 C.2.1 hd (h p e R s mid args below meth c B C H locs cells slots ls ad (D.stk (okc (okI _) (okt (okt D.ok)))))
theorem pw_imul {x y : Int32} (hd : decode (mB mi) pc = .ok (.imul, 1))
    (h : PW G l mi (pc + 1) L (vI (x * y) :: st) M o M' mc ms) : PW G l mi pc L (vI y :: vI x :: st) M o M' mc ms := by
  intro p e R s mid args below meth c B C H locs cells slots ls ad D
  exact lv_imul C.1 C.2.1 hd (h p e R s mid args below meth c B C H locs cells slots ls ad (D.stk (okc (okI _) (okt (okt D.ok)))))
theorem pw_iand {x y : Int32} (hd : decode (mB mi) pc = .ok (.iand, 1))
    (h : PW G l mi (pc + 1) L (vI (x &&& y) :: st) M o M' mc ms) : PW G l mi pc L (vI y :: vI x :: st) M o M' mc ms := by
  intro p e R s mid args below meth c B C H locs cells slots ls ad D
  exact lv_iand C.1 C.2.1 hd (h p e R s mid args below meth c B C H locs cells slots ls ad (D.stk (okc (okI _) (okt (okt D.ok)))))
theorem pw_ior {x y : Int32} (hd : decode (mB mi) pc = .ok (.ior, 1))
    (h : PW G l mi (pc + 1) L (vI (x ||| y) :: st) M o M' mc ms) : PW G l mi pc L (vI y :: vI x :: st) M o M' mc ms := by
  intro p e R s mid args below meth c B C H locs cells slots ls ad D
  exact lv_ior C.1 C.2.1 hd (h p e R s mid args below meth c B C H locs cells slots ls ad (D.stk (okc (okI _) (okt (okt D.ok)))))
theorem pw_ixor {x y : Int32} (hd : decode (mB mi) pc = .ok (.ixor, 1))
    (h : PW G l mi (pc + 1) L (vI (x ^^^ y) :: st) M o M' mc ms) : PW G l mi pc L (vI y :: vI x :: st) M o M' mc ms := by
  intro p e R s mid args below meth c B C H locs cells slots ls ad D
  exact lv_ixor C.1 C.2.1 hd (h p e R s mid args below meth c B C H locs cells slots ls ad (D.stk (okc (okI _) (okt (okt D.ok)))))
theorem pw_ishl {x y : Int32} (hd : decode (mB mi) pc = .ok (.ishl, 1))
    (h : PW G l mi (pc + 1) L (vI (x <<< (y &&& 31)) :: st) M o M' mc ms) : PW G l mi pc L (vI y :: vI x :: st) M o M' mc ms := by
  intro p e R s mid args below meth c B C H locs cells slots ls ad D
  exact lv_ishl C.1 C.2.1 hd (h p e R s mid args below meth c B C H locs cells slots ls ad (D.stk (okc (okI _) (okt (okt D.ok)))))
theorem pw_ishr {x y : Int32} (hd : decode (mB mi) pc = .ok (.ishr, 1))
    (h : PW G l mi (pc + 1) L (vI (x >>> (y &&& 31)) :: st) M o M' mc ms) : PW G l mi pc L (vI y :: vI x :: st) M o M' mc ms := by
  intro p e R s mid args below meth c B C H locs cells slots ls ad D
  exact lv_ishr C.1 C.2.1 hd (h p e R s mid args below meth c B C H locs cells slots ls ad (D.stk (okc (okI _) (okt (okt D.ok)))))
theorem pw_idiv {x y : Int32} (hd : decode (mB mi) pc = .ok (.idiv, 1)) (hne : ¬ y = 0)
    (h : PW G l mi (pc + 1) L (vI (x / y) :: st) M o M' mc ms) : PW G l mi pc L (vI y :: vI x :: st) M o M' mc ms := by
  intro p e R s mid args below meth c B C H locs cells slots ls ad D
  exact lv_idiv C.1 C.2.1 hd hne (h p e R s mid args below meth c B C H locs cells slots ls ad (D.stk (okc (okI _) (okt (okt D.ok)))))
theorem pw_irem {x y : Int32} (hd : decode (mB mi) pc = .ok (.irem, 1)) (hne : ¬ y = 0)
    (h : PW G l mi (pc + 1) L (vI (x - x / y * y) :: st) M o M' mc ms) : PW G l mi pc L (vI y :: vI x :: st) M o M' mc ms := by
  intro p e R s mid args below meth c B C H locs cells slots ls ad D
  exact lv_irem C.1 C.2.1 hd hne (h p e R s mid args below meth c B C H locs cells slots ls ad (D.stk (okc (okI _) (okt (okt D.ok)))))
theorem pw_ladd {x y : Int64} (hd : decode (mB mi) pc = .ok (.ladd, 1))
    (h : PW G l mi (pc + 1) L (vL (x + y) :: st) M o M' mc ms) : PW G l mi pc L (vL y :: vL x :: st) M o M' mc ms := by
  intro p e R s mid args below meth c B C H locs cells slots ls ad D
  exact lv_ladd C.1 C.2.1 hd (h p e R s mid args below meth c B C H locs cells slots ls ad (D.stk (okc (okJ _) (okt (okt D.ok)))))
theorem pw_lsub {x y : Int64} (hd : decode (mB mi) pc = .ok (.lsub, 1))
    (h : PW G l mi (pc + 1) L (vL (x - y) :: st) M o M' mc ms) : PW G l mi pc L (vL y :: vL x :: st) M o M' mc ms := by
  intro p e R s mid args below meth c B C H locs cells slots ls ad D
  exact lv_lsub C.1 C.2.1 hd (h p e R s mid args below meth c B C H locs cells slots ls ad (D.stk (okc (okJ _) (okt (okt D.ok)))))
theorem pw_lmul {x y : Int64} (hd : decode (mB mi) pc = .ok (.lmul, 1))
    (h : PW G l mi (pc + 1) L (vL (x * y) :: st) M o M' mc ms) : PW G l mi pc L (vL y :: vL x :: st) M o M' mc ms := by
  intro p e R s mid args below meth c B C H locs cells slots ls ad D
  exact lv_lmul C.1 C.2.1 hd (h p e R s mid args below meth c B C H locs cells slots ls ad (D.stk (okc (okJ _) (okt (okt D.ok)))))
theorem pw_land {x y : Int64} (hd : decode (mB mi) pc = .ok (.land, 1))
    (h : PW G l mi (pc + 1) L (vL (x &&& y) :: st) M o M' mc ms) : PW G l mi pc L (vL y :: vL x :: st) M o M' mc ms := by
  intro p e R s mid args below meth c B C H locs cells slots ls ad D
  exact lv_land C.1 C.2.1 hd (h p e R s mid args below meth c B C H locs cells slots ls ad (D.stk (okc (okJ _) (okt (okt D.ok)))))
theorem pw_lor {x y : Int64} (hd : decode (mB mi) pc = .ok (.lor, 1))
    (h : PW G l mi (pc + 1) L (vL (x ||| y) :: st) M o M' mc ms) : PW G l mi pc L (vL y :: vL x :: st) M o M' mc ms := by
  intro p e R s mid args below meth c B C H locs cells slots ls ad D
  exact lv_lor C.1 C.2.1 hd (h p e R s mid args below meth c B C H locs cells slots ls ad (D.stk (okc (okJ _) (okt (okt D.ok)))))
theorem pw_lxor {x y : Int64} (hd : decode (mB mi) pc = .ok (.lxor, 1))
    (h : PW G l mi (pc + 1) L (vL (x ^^^ y) :: st) M o M' mc ms) : PW G l mi pc L (vL y :: vL x :: st) M o M' mc ms := by
  intro p e R s mid args below meth c B C H locs cells slots ls ad D
  exact lv_lxor C.1 C.2.1 hd (h p e R s mid args below meth c B C H locs cells slots ls ad (D.stk (okc (okJ _) (okt (okt D.ok)))))
theorem pw_ldiv {x y : Int64} (hd : decode (mB mi) pc = .ok (.ldiv, 1)) (hne : ¬ y = 0)
    (h : PW G l mi (pc + 1) L (vL (x / y) :: st) M o M' mc ms) : PW G l mi pc L (vL y :: vL x :: st) M o M' mc ms := by
  intro p e R s mid args below meth c B C H locs cells slots ls ad D
  exact lv_ldiv C.1 C.2.1 hd hne (h p e R s mid args below meth c B C H locs cells slots ls ad (D.stk (okc (okJ _) (okt (okt D.ok)))))
theorem pw_lneg {x : Int64} (hd : decode (mB mi) pc = .ok (.lneg, 1))
    (h : PW G l mi (pc + 1) L (vL (-x) :: st) M o M' mc ms) : PW G l mi pc L (vL x :: st) M o M' mc ms := by
  intro p e R s mid args below meth c B C H locs cells slots ls ad D
  exact lv_lneg C.1 C.2.1 hd (h p e R s mid args below meth c B C H locs cells slots ls ad (D.stk (okc (okJ _) (okt D.ok))))
theorem pw_lushr {x : Int64} {y : Int32} (hd : decode (mB mi) pc = .ok (.lushr, 1))
    (h : PW G l mi (pc + 1) L (vL ((x.toUInt64 >>> (y.toInt64.toUInt64 &&& Int64.toUInt64 63)).toInt64) :: st) M o M' mc ms) : PW G l mi pc L (vI y :: vL x :: st) M o M' mc ms := by
  intro p e R s mid args below meth c B C H locs cells slots ls ad D
  exact lv_lushr C.1 C.2.1 hd rfl (h p e R s mid args below meth c B C H locs cells slots ls ad (D.stk (okc (okJ _) (okt (okt D.ok)))))
theorem pw_lshl {x : Int64} {y : Int32} (hd : decode (mB mi) pc = .ok (.lshl, 1))
    (h : PW G l mi (pc + 1) L (vL (x <<< (y.toInt64 &&& 63)) :: st) M o M' mc ms) : PW G l mi pc L (vI y :: vL x :: st) M o M' mc ms := by
  intro p e R s mid args below meth c B C H locs cells slots ls ad D
  exact lv_lshl C.1 C.2.1 hd rfl (h p e R s mid args below meth c B C H locs cells slots ls ad (D.stk (okc (okJ _) (okt (okt D.ok)))))
theorem pw_lshr {x : Int64} {y : Int32} (hd : decode (mB mi) pc = .ok (.lshr, 1))
    (h : PW G l mi (pc + 1) L (vL (x >>> (y.toInt64 &&& 63)) :: st) M o M' mc ms) : PW G l mi pc L (vI y :: vL x :: st) M o M' mc ms := by
  intro p e R s mid args below meth c B C H locs cells slots ls ad D
  exact lv_lshr C.1 C.2.1 hd rfl (h p e R s mid args below meth c B C H locs cells slots ls ad (D.stk (okc (okJ _) (okt (okt D.ok)))))
theorem pw_i2l {x : Int32} (hd : decode (mB mi) pc = .ok (.i2l, 1))
    (h : PW G l mi (pc + 1) L (vL x.toInt64 :: st) M o M' mc ms) : PW G l mi pc L (vI x :: st) M o M' mc ms := by
  intro p e R s mid args below meth c B C H locs cells slots ls ad D
  exact lv_i2l C.1 C.2.1 hd rfl (h p e R s mid args below meth c B C H locs cells slots ls ad (D.stk (okc (okJ _) (okt D.ok))))
theorem pw_l2i {x : Int64} (hd : decode (mB mi) pc = .ok (.l2i, 1))
    (h : PW G l mi (pc + 1) L (vI x.toInt32 :: st) M o M' mc ms) : PW G l mi pc L (vL x :: st) M o M' mc ms := by
  intro p e R s mid args below meth c B C H locs cells slots ls ad D
  exact lv_l2i C.1 C.2.1 hd rfl (h p e R s mid args below meth c B C H locs cells slots ls ad (D.stk (okc (okI _) (okt D.ok))))
theorem pw_lcmp {x y : Int64} (hd : decode (mB mi) pc = .ok (.lcmp, 1))
    (h : PW G l mi (pc + 1) L (vI (lg_cmp x y) :: st) M o M' mc ms) : PW G l mi pc L (vL y :: vL x :: st) M o M' mc ms := by
  intro p e R s mid args below meth c B C H locs cells slots ls ad D
  exact W.lcmp C.1 C.2.1 hd (h p e R s mid args below meth c B C H locs cells slots ls ad (D.stk (okc (okI _) (okt (okt D.ok)))))
theorem pw_dup {v : PV} (hd : decode (mB mi) pc = .ok (.dup, 1)) (hc : cat v = 1)
    (h : PW G l mi (pc + 1) L (v :: v :: st) M o M' mc ms) : PW G l mi pc L (v :: st) M o M' mc ms := by
  intro p e R s mid args below meth c B C H locs cells slots ls ad D
  exact lv_dup C.1 C.2.1 hd (by rw [cv_cat]; exact hc) (h p e R s mid args below meth c B C H locs cells slots ls ad (D.stk (okc (okh D.ok) D.ok)))
theorem pw_pop {v : PV} (hd : decode (mB mi) pc = .ok (.pop, 1)) (hc : cat v = 1)
    (h : PW G l mi (pc + 1) L (st) M o M' mc ms) : PW G l mi pc L (v :: st) M o M' mc ms := by
  intro p e R s mid args below meth c B C H locs cells slots ls ad D
  exact lv_pop C.1 C.2.1 hd (by rw [cv_cat]; exact hc) (h p e R s mid args below meth c B C H locs cells slots ls ad (D.stk (okt D.ok)))
theorem pw_dup2_11 {v w : PV} (hd : decode (mB mi) pc = .ok (.dup2, 1)) (hc : cat v = 1) (hc2 : cat w = 1)
    (h : PW G l mi (pc + 1) L (v :: w :: v :: w :: st) M o M' mc ms) : PW G l mi pc L (v :: w :: st) M o M' mc ms := by
  intro p e R s mid args below meth c B C H locs cells slots ls ad D
  exact lv_dup2_11 C.1 C.2.1 hd (by rw [cv_cat]; exact hc) (by rw [cv_cat]; exact hc2) (h p e R s mid args below meth c B C H locs cells slots ls ad (D.stk (okc (okh D.ok) (okc (okh (okt D.ok)) D.ok))))
theorem pw_dup2_2 {v : PV} (hd : decode (mB mi) pc = .ok (.dup2, 1)) (hc : cat v = 2)
    (h : PW G l mi (pc + 1) L (v :: v :: st) M o M' mc ms) : PW G l mi pc L (v :: st) M o M' mc ms := by
  intro p e R s mid args below meth c B C H locs cells slots ls ad D
  exact lv_dup2_2 C.1 C.2.1 hd (by rw [cv_cat]; exact hc) (h p e R s mid args below meth c B C H locs cells slots ls ad (D.stk (okc (okh D.ok) D.ok)))
theorem pw_if_eq {x : Int32} {off : Int} {tgt : Nat} (hd : decode (mB mi) pc = .ok (.ifCond .eq off, 3)) (ht : (pc : Int) + off = (tgt : Int))
    (kt : x = 0 → PW G l mi tgt L st M o M' mc ms) (kf : ¬ x = 0 → PW G l mi (pc + 3) L st M o M' mc ms) : PW G l mi pc L (vI x :: st) M o M' mc ms := by
  intro p e R s mid args below meth c B C H locs cells slots ls ad D
  exact lv_if_eq C.1 C.2.1 hd ht (fun q => kt q p e R s mid args below meth c B C H locs cells slots ls ad (D.stk (okt D.ok))) (fun q => kf q p e R s mid args below meth c B C H locs cells slots ls ad (D.stk (okt D.ok)))
theorem pw_icmp_eq {x y : Int32} {off : Int} {tgt : Nat} (hd : decode (mB mi) pc = .ok (.if_icmp .eq off, 3)) (ht : (pc : Int) + off = (tgt : Int))
    (kt : x = y → PW G l mi tgt L st M o M' mc ms) (kf : ¬ x = y → PW G l mi (pc + 3) L st M o M' mc ms) : PW G l mi pc L (vI y :: vI x :: st) M o M' mc ms := by
  intro p e R s mid args below meth c B C H locs cells slots ls ad D
  exact lv_icmp_eq C.1 C.2.1 hd ht (fun q => kt q p e R s mid args below meth c B C H locs cells slots ls ad (D.stk (okt (okt D.ok)))) (fun q => kf q p e R s mid args below meth c B C H locs cells slots ls ad (D.stk (okt (okt D.ok))))
theorem pw_if_ne {x : Int32} {off : Int} {tgt : Nat} (hd : decode (mB mi) pc = .ok (.ifCond .ne off, 3)) (ht : (pc : Int) + off = (tgt : Int))
    (kt : ¬ x = 0 → PW G l mi tgt L st M o M' mc ms) (kf : x = 0 → PW G l mi (pc + 3) L st M o M' mc ms) : PW G l mi pc L (vI x :: st) M o M' mc ms := by
  intro p e R s mid args below meth c B C H locs cells slots ls ad D
  exact lv_if_ne C.1 C.2.1 hd ht (fun q => kt q p e R s mid args below meth c B C H locs cells slots ls ad (D.stk (okt D.ok))) (fun q => kf q p e R s mid args below meth c B C H locs cells slots ls ad (D.stk (okt D.ok)))
theorem pw_icmp_ne {x y : Int32} {off : Int} {tgt : Nat} (hd : decode (mB mi) pc = .ok (.if_icmp .ne off, 3)) (ht : (pc : Int) + off = (tgt : Int))
    (kt : ¬ x = y → PW G l mi tgt L st M o M' mc ms) (kf : x = y → PW G l mi (pc + 3) L st M o M' mc ms) : PW G l mi pc L (vI y :: vI x :: st) M o M' mc ms := by
  intro p e R s mid args below meth c B C H locs cells slots ls ad D
  exact lv_icmp_ne C.1 C.2.1 hd ht (fun q => kt q p e R s mid args below meth c B C H locs cells slots ls ad (D.stk (okt (okt D.ok)))) (fun q => kf q p e R s mid args below meth c B C H locs cells slots ls ad (D.stk (okt (okt D.ok))))
theorem pw_if_lt {x : Int32} {off : Int} {tgt : Nat} (hd : decode (mB mi) pc = .ok (.ifCond .lt off, 3)) (ht : (pc : Int) + off = (tgt : Int))
    (kt : x < 0 → PW G l mi tgt L st M o M' mc ms) (kf : ¬ x < 0 → PW G l mi (pc + 3) L st M o M' mc ms) : PW G l mi pc L (vI x :: st) M o M' mc ms := by
  intro p e R s mid args below meth c B C H locs cells slots ls ad D
  exact lv_if_lt C.1 C.2.1 hd ht (fun q => kt q p e R s mid args below meth c B C H locs cells slots ls ad (D.stk (okt D.ok))) (fun q => kf q p e R s mid args below meth c B C H locs cells slots ls ad (D.stk (okt D.ok)))
theorem pw_icmp_lt {x y : Int32} {off : Int} {tgt : Nat} (hd : decode (mB mi) pc = .ok (.if_icmp .lt off, 3)) (ht : (pc : Int) + off = (tgt : Int))
    (kt : x < y → PW G l mi tgt L st M o M' mc ms) (kf : ¬ x < y → PW G l mi (pc + 3) L st M o M' mc ms) : PW G l mi pc L (vI y :: vI x :: st) M o M' mc ms := by
  intro p e R s mid args below meth c B C H locs cells slots ls ad D
  exact lv_icmp_lt C.1 C.2.1 hd ht (fun q => kt q p e R s mid args below meth c B C H locs cells slots ls ad (D.stk (okt (okt D.ok)))) (fun q => kf q p e R s mid args below meth c B C H locs cells slots ls ad (D.stk (okt (okt D.ok))))
theorem pw_if_ge {x : Int32} {off : Int} {tgt : Nat} (hd : decode (mB mi) pc = .ok (.ifCond .ge off, 3)) (ht : (pc : Int) + off = (tgt : Int))
    (kt : 0 ≤ x → PW G l mi tgt L st M o M' mc ms) (kf : ¬ 0 ≤ x → PW G l mi (pc + 3) L st M o M' mc ms) : PW G l mi pc L (vI x :: st) M o M' mc ms := by
  intro p e R s mid args below meth c B C H locs cells slots ls ad D
  exact lv_if_ge C.1 C.2.1 hd ht (fun q => kt q p e R s mid args below meth c B C H locs cells slots ls ad (D.stk (okt D.ok))) (fun q => kf q p e R s mid args below meth c B C H locs cells slots ls ad (D.stk (okt D.ok)))
theorem pw_icmp_ge {x y : Int32} {off : Int} {tgt : Nat} (hd : decode (mB mi) pc = .ok (.if_icmp .ge off, 3)) (ht : (pc : Int) + off = (tgt : Int))
    (kt : y ≤ x → PW G l mi tgt L st M o M' mc ms) (kf : ¬ y ≤ x → PW G l mi (pc + 3) L st M o M' mc ms) : PW G l mi pc L (vI y :: vI x :: st) M o M' mc ms := by
  intro p e R s mid args below meth c B C H locs cells slots ls ad D
  exact lv_icmp_ge C.1 C.2.1 hd ht (fun q => kt q p e R s mid args below meth c B C H locs cells slots ls ad (D.stk (okt (okt D.ok)))) (fun q => kf q p e R s mid args below meth c B C H locs cells slots ls ad (D.stk (okt (okt D.ok))))
theorem pw_if_gt {x : Int32} {off : Int} {tgt : Nat} (hd : decode (mB mi) pc = .ok (.ifCond .gt off, 3)) (ht : (pc : Int) + off = (tgt : Int))
    (kt : 0 < x → PW G l mi tgt L st M o M' mc ms) (kf : ¬ 0 < x → PW G l mi (pc + 3) L st M o M' mc ms) : PW G l mi pc L (vI x :: st) M o M' mc ms := by
  intro p e R s mid args below meth c B C H locs cells slots ls ad D
  exact lv_if_gt C.1 C.2.1 hd ht (fun q => kt q p e R s mid args below meth c B C H locs cells slots ls ad (D.stk (okt D.ok))) (fun q => kf q p e R s mid args below meth c B C H locs cells slots ls ad (D.stk (okt D.ok)))
theorem pw_icmp_gt {x y : Int32} {off : Int} {tgt : Nat} (hd : decode (mB mi) pc = .ok (.if_icmp .gt off, 3)) (ht : (pc : Int) + off = (tgt : Int))
    (kt : y < x → PW G l mi tgt L st M o M' mc ms) (kf : ¬ y < x → PW G l mi (pc + 3) L st M o M' mc ms) : PW G l mi pc L (vI y :: vI x :: st) M o M' mc ms := by
  intro p e R s mid args below meth c B C H locs cells slots ls ad D
  exact lv_icmp_gt C.1 C.2.1 hd ht (fun q => kt q p e R s mid args below meth c B C H locs cells slots ls ad (D.stk (okt (okt D.ok)))) (fun q => kf q p e R s mid args below meth c B C H locs cells slots ls ad (D.stk (okt (okt D.ok))))
theorem pw_if_le {x : Int32} {off : Int} {tgt : Nat} (hd : decode (mB mi) pc = .ok (.ifCond .le off, 3)) (ht : (pc : Int) + off = (tgt : Int))
    (kt : x ≤ 0 → PW G l mi tgt L st M o M' mc ms) (kf : ¬ x ≤ 0 → PW G l mi (pc + 3) L st M o M' mc ms) : PW G l mi pc L (vI x :: st) M o M' mc ms := by
  intro p e R s mid args below meth c B C H locs cells slots ls ad D
  exact lv_if_le C.1 C.2.1 hd ht (fun q => kt q p e R s mid args below meth c B C H locs cells slots ls ad (D.stk (okt D.ok))) (fun q => kf q p e R s mid args below meth c B C H locs cells slots ls ad (D.stk (okt D.ok)))
theorem pw_icmp_le {x y : Int32} {off : Int} {tgt : Nat} (hd : decode (mB mi) pc = .ok (.if_icmp .le off, 3)) (ht : (pc : Int) + off = (tgt : Int))
    (kt : x ≤ y → PW G l mi tgt L st M o M' mc ms) (kf : ¬ x ≤ y → PW G l mi (pc + 3) L st M o M' mc ms) : PW G l mi pc L (vI y :: vI x :: st) M o M' mc ms := by
  intro p e R s mid args below meth c B C H locs cells slots ls ad D
  exact lv_icmp_le C.1 C.2.1 hd ht (fun q => kt q p e R s mid args below meth c B C H locs cells slots ls ad (D.stk (okt (okt D.ok)))) (fun q => kf q p e R s mid args below meth c B C H locs cells slots ls ad (D.stk (okt (okt D.ok))))
theorem pw_goto {off : Int} {tgt : Nat} (hd : decode (mB mi) pc = .ok (.goto off, 3)) (ht : (pc : Int) + off = (tgt : Int)) (h : PW G l mi tgt L st M o M' mc ms) : PW G l mi pc L st M o M' mc ms := by
  intro p e R s mid args below meth c B C H locs cells slots ls ad D
  exact lv_goto C.1 C.2.1 hd ht (h p e R s mid args below meth c B C H locs cells slots ls ad D)
theorem pw_tableOut {dflt lo hi : Int} {offs : Array Int} {len : Nat} {x : Int32} {tgt : Nat} (hd : decode (mB mi) pc = .ok (.tableswitch dflt lo hi offs, len)) (hx : x.toInt < lo ∨ hi < x.toInt) (ht : (pc : Int) + dflt = (tgt : Int))
    (h : PW G l mi tgt L st M o M' mc ms) : PW G l mi pc L (vI x :: st) M o M' mc ms := by
  intro p e R s mid args below meth c B C H locs cells slots ls ad D
  exact lv_tableOut C.1 C.2.1 hd hx ht (h p e R s mid args below meth c B C H locs cells slots ls ad (D.stk (okt D.ok)))
theorem pw_tableIn {dflt lo hi : Int} {offs : Array Int} {len : Nat} {x : Int32} {off : Int} {tgt : Nat} (hd : decode (mB mi) pc = .ok (.tableswitch dflt lo hi offs, len)) (h1 : ¬ x.toInt < lo) (h2 : ¬ hi < x.toInt) (ho : offs[(x.toInt - lo).toNat]? = some off) (ht : (pc : Int) + off = (tgt : Int))
    (h : PW G l mi tgt L st M o M' mc ms) : PW G l mi pc L (vI x :: st) M o M' mc ms := by
  intro p e R s mid args below meth c B C H locs cells slots ls ad D
  exact lv_tableIn C.1 C.2.1 hd h1 h2 ho ht (h p e R s mid args below meth c B C H locs cells slots ls ad (D.stk (okt D.ok)))
end PR
