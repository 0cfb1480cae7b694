/-! THE PURE LAYER: keys, values, memory; a memory's picture of the heap -/
abbrev KK : Type := Nat × Nat
abbrev PV : Type := Int32 ⊕ Int64 ⊕ Option KK
abbrev vI (x : Int32) : PV := .inl x
abbrev vL (x : Int64) : PV := .inr (.inl x)
abbrev vR (k : Option KK) : PV := .inr (.inr k)
abbrev Mem : Type := (KK → Nat → Int32) × (KK → Nat → Int64) × (KK → Nat → Option KK) × Nat
/-- numbers of classes, of array classes; the script: its cell, its length, its ints -/
abbrev GG : Type := va_G × (Nat → ClassId) × Nat × Nat × (Nat → Int32)
def cv (ad : KK → Nat) : PV → Value
  | .inl x => .int x
  | .inr (.inl x) => .long x
  | .inr (.inr k) => va_rf (k.map ad)
def cat : PV → Nat
  | .inr (.inl _) => 2
  | _ => 1
theorem cv_cat (ad : KK → Nat) (v : PV) : (cv ad v).category = cat v := by
  rcases v with x | x | k
  · rfl
  · rfl
  · cases k <;> rfl
theorem cv_cats (ad : KK → Nat) (st : List PV) : ((st.map (cv ad)).map fun v => v.category).sum = (st.map cat).sum := by
  rw [List.map_map]
  congr 1
  exact List.map_congr_left fun v _ => cv_cat ad v
/-- shapes: (0, class), (1, length) of ints, (2, length) of longs, (3, length) of peers -/
def shH : Nat → Nat × Nat
  | 0 => (0, 0) | 1 => (0, 1) | 2 => (1, 64) | 3 => (0, 1) | 4 => (1, 48) | 5 => (0, 2) | 6 => (3, 8) | 7 => (0, 4) | 8 => (0, 5)
  | 9 => (1, 8) | 10 => (1, 8) | 11 => (2, 8) | 12 => (2, 8) | 13 => (2, 8)
  | 20 => (0, 6) | 21 => (1, 64) | 22 => (1, 48) | 23 => (2, 8) | 24 => (2, 8) | 25 => (1, 8) | 26 => (1, 8) | 27 => (2, 8) | 28 => (2, 8) | 29 => (1, 8) | 30 => (1, 8)
  | 31 => (2, 64) | 32 => (2, 64) | 33 => (2, 64) | 34 => (1, 64) | 35 => (1, 8)
  | 40 => (2, 1)
  | 50 => (9, 0)
  | _ => (1, 0)
def shP : Nat → Nat × Nat
  | 0 => (0, 3) | 1 => (2, 8) | 2 => (2, 8) | 3 => (2, 8) | 4 => (1, 8) | _ => (1, 8)
def shp : KK → Nat × Nat
  | (0, j) => shH j
  | (_ + 1, j) => shP j
/-- the key of the n-th cell that is made -/
def nk (n : Nat) : KK := if n < 7 then (0, n) else if n < 55 then ((n - 7) / 6 + 1, (n - 7) % 6) else if n < 62 then (0, n - 48) else if n < 78 then (0, n - 42) else (0, n - 38)
theorem nk_inj : ∀ i, i < 79 → ∀ j, j < 79 → nk i = nk j → i = j := by decide +kernel
/-- the script's key: no cell of ours -/
def SK : KK := (0, 50)
theorem nk_SK : ∀ i, i < 79 → nk i ≠ SK := by decide +kernel
def al (M : Mem) (k : KK) : Prop := ∃ n, n < M.2.2.2 ∧ nk n = k
def okv (M : Mem) (v : PV) : Prop := ∀ k, v = vR (some k) → k = SK ∨ al M k
def fvl (ad : KK → Nat) (M : Mem) (k : KK) (j : Nat) : FieldType → Value
  | .long => .long (M.2.1 k j)
  | .object _ => va_rf ((M.2.2.1 k j).map ad)
  | .array _ => va_rf ((M.2.2.1 k j).map ad)
  | _ => .int (M.1 k j)
def cE (G : GG) (ad : KK → Nat) (M : Mem) (k : KK) : va_E := match shp k with
  | (0, ci) => .inr (ci, (List.range (nfl ci)).map (fun j => fvl ad M k j (fty ci j)))
  | (1, n) => .inl (G.2.1 0, n, .inl (M.1 k))
  | (2, n) => .inl (G.2.1 1, n, .inr (.inl (M.2.1 k)))
  | (_, n) => .inl (G.2.1 2, n, .inr (.inr (.inr (.inr (fun j => (M.2.2.1 k j).map ad)))))
def wl (G : GG) (ad : KK → Nat) (M : Mem) : va_W := (List.range M.2.2.2).map (fun n => (ad (nk n), cE G ad M (nk n)))
abbrev tyl (G : GG) : List (ClassId × FieldType) := [(G.2.1 0, .int), (G.2.1 1, .long), (G.2.1 2, .object "TimeKeeper$Peer")]
def HR (G : GG) (B : Heap) (ad : KK → Nat) (M : Mem) (H : Heap) : Prop :=
  va_P G.1 classes (wl G ad M) H ∧ va_D (fun q => B.size ≤ q) (wl G ad M) ∧ (∀ k j k', al M k → M.2.2.1 k j = some k' → al M k') ∧ M.2.2.2 ≤ 79 ∧ ad SK = G.2.2.1
theorem wl_at {G : GG} {ad : KK → Nat} {M : Mem} {n : Nat} (h : n < M.2.2.2) : (wl G ad M)[n]? = some (ad (nk n), cE G ad M (nk n)) := by
  simp [wl, h]
/-- a memory that differs at one cell alone -/
def M1 (k : KK) (M M' : Mem) : Prop := M'.2.2.2 = M.2.2.2 ∧ ∀ q, q ≠ k → M'.1 q = M.1 q ∧ M'.2.1 q = M.2.1 q ∧ M'.2.2.1 q = M.2.2.1 q
theorem cE_congr {G : GG} {ad : KK → Nat} {M M' : Mem} {q : KK} (h1 : M'.1 q = M.1 q) (h2 : M'.2.1 q = M.2.1 q) (h3 : M'.2.2.1 q = M.2.2.1 q) : cE G ad M' q = cE G ad M q := by
  unfold cE
  rw [h1, h2, h3]
  have hf : ∀ j t, fvl ad M' q j t = fvl ad M q j t := by
    intro j t
    cases t <;> simp only [fvl, h1, h2, h3]
  simp only [hf]
theorem wl_set {G : GG} {ad : KK → Nat} {M M' : Mem} {n : Nat} (hn : n < M.2.2.2) (h79 : M.2.2.2 ≤ 79) (h : M1 (nk n) M M') : (wl G ad M).set n (ad (nk n), cE G ad M' (nk n)) = wl G ad M' := by
  apply List.ext_getElem?
  intro i
  by_cases hi : i < M.2.2.2
  · rw [List.getElem?_set]
    by_cases e : n = i
    · subst e
      rw [if_pos rfl, if_pos (by simp [wl]; exact hn), wl_at (by rw [h.1]; exact hn)]
    · rw [if_neg e, wl_at hi, wl_at (by rw [h.1]; exact hi)]
      obtain ⟨h1, h2, h3⟩ := h.2 (nk i) (fun q => e (nk_inj n (by omega) i (by omega) q.symm))
      rw [cE_congr h1 h2 h3]
  · have h1 : (wl G ad M').length ≤ i := by simp [wl, h.1]; omega
    have h2 : ((wl G ad M).set n (ad (nk n), cE G ad M' (nk n))).length ≤ i := by simp [wl]; omega
    rw [List.getElem?_eq_none h1, List.getElem?_eq_none h2]
theorem al_M1 {k q : KK} {M M' : Mem} (h : M1 k M M') : al M' q ↔ al M q := by
  unfold al
  rw [h.1]
theorem okv_M1 {k : KK} {M M' : Mem} (h : M1 k M M') {v : PV} (hv : okv M v) : okv M' v := fun q e => (hv q e).imp id (al_M1 h).mpr
/-! ints, longs, references stored at a place of a cell -/
def sI (M : Mem) (k : KK) (j : Nat) (x : Int32) : Mem := (fun q i => if q = k ∧ i = j then x else M.1 q i, M.2)
def sL (M : Mem) (k : KK) (j : Nat) (x : Int64) : Mem := (M.1, fun q i => if q = k ∧ i = j then x else M.2.1 q i, M.2.2)
def sR (M : Mem) (k : KK) (j : Nat) (x : Option KK) : Mem := (M.1, M.2.1, fun q i => if q = k ∧ i = j then x else M.2.2.1 q i, M.2.2.2)
theorem M1_sI (M : Mem) (k : KK) (j : Nat) (x : Int32) : M1 k M (sI M k j x) := ⟨rfl, fun q h => ⟨by funext i; simp [sI, h], rfl, rfl⟩⟩
theorem M1_sL (M : Mem) (k : KK) (j : Nat) (x : Int64) : M1 k M (sL M k j x) := ⟨rfl, fun q h => ⟨rfl, by funext i; simp [sL, h], rfl⟩⟩
theorem M1_sR (M : Mem) (k : KK) (j : Nat) (x : Option KK) : M1 k M (sR M k j x) := ⟨rfl, fun q h => ⟨rfl, rfl, by funext i; simp [sR, h]⟩⟩
/-! locals: a list, a long's second place is empty -/
def isL : Option PV → Bool
  | some (.inr (.inl _)) => true
  | _ => false
def kil : List (Option PV) → List (Option PV)
  | [] => []
  | _ :: r => none :: r
def stL : List (Option PV) → Nat → PV → List (Option PV)
  | [], _, _ => []
  | _ :: r, 0, v => some v :: (match cat v with | 2 => kil r | _ => r)
  | x :: r, 1, v => (match isL x with | true => none | false => x) :: stL r 0 v
  | x :: r, n + 2, v => x :: stL r (n + 1) v
def ldL : List (Option PV) → Nat → Option PV
  | [], _ => none
  | x :: _, 0 => x
  | _ :: r, n + 1 => ldL r n
def entL : List PV → List (Option PV)
  | [] => []
  | v :: r => some v :: (match cat v with | 2 => none :: entL r | _ => entL r)
def padL : Nat → List (Option PV) → List (Option PV)
  | 0, _ => []
  | n + 1, [] => none :: padL n []
  | n + 1, x :: r => x :: padL n r
def LR (ad : KK → Nat) (L : List (Option PV)) (ls : Array Slot) (nL : Nat) : Prop := ls.size = nL ∧ lv_wf ls ∧ ∀ i v, ldL L i = some v → ls[i]? = some (.val (cv ad v))
def okL (M : Mem) (L : List (Option PV)) : Prop := ∀ i v, ldL L i = some v → okv M v
theorem ldL_st0 (L : List (Option PV)) (v w : PV) : ∀ j, ldL (stL L 0 v) j = some w → (j = 0 ∧ w = v) ∨ (j ≠ 0 ∧ ldL L j = some w ∧ ¬ (cat v = 2 ∧ j = 1)) := by
  intro j h
  cases L with
  | nil => simp [stL, ldL] at h
  | cons x r =>
    cases j with
    | zero => left; simp only [stL, ldL, Option.some.injEq] at h; exact ⟨rfl, h.symm⟩
    | succ j =>
      right
      simp only [stL, ldL] at h
      refine ⟨by omega, ?_, ?_⟩
      · show ldL r j = some w
        split at h
        · cases r with
          | nil => simp [kil, ldL] at h
          | cons y r =>
            cases j with
            | zero => simp [kil, ldL] at h
            | succ j => simpa [kil, ldL] using h
        · exact h
      · rintro ⟨c2, j1⟩
        have hj : j = 0 := by omega
        subst hj
        rw [c2] at h
        cases r with
        | nil => simp [kil, ldL] at h
        | cons y r => simp [kil, ldL] at h
theorem ldL_st (v w : PV) : ∀ (L : List (Option PV)) (i j : Nat), ldL (stL L i v) j = some w → (j = i ∧ w = v) ∨ (j ≠ i ∧ ldL L j = some w ∧ ¬ (cat v = 2 ∧ j = i + 1) ∧ ¬ (j + 1 = i ∧ cat w = 2))
  | [], i, j, h => by simp [stL, ldL] at h
  | x :: r, 0, j, h => by
    rcases ldL_st0 _ _ _ j h with h | ⟨h1, h2, h3⟩
    · exact Or.inl h
    · exact Or.inr ⟨h1, h2, h3, fun q => by omega⟩
  | x :: r, 1, j, h => by
    cases j with
    | zero =>
      right
      simp only [stL, ldL] at h
      cases hx : isL x with
      | true => rw [hx] at h; simp at h
      | false =>
        rw [hx] at h
        refine ⟨by omega, h, fun q => by omega, fun q => ?_⟩
        have hx2 : x = some w := h
        rw [hx2] at hx
        rcases w with a | a | a
        · simp [cat] at q
        · simp [isL] at hx
        · simp [cat] at q
    | succ j =>
      simp only [stL, ldL] at h
      rcases ldL_st0 _ _ _ j h with ⟨h1, h2⟩ | ⟨h1, h2, h3⟩
      · exact Or.inl ⟨by omega, h2⟩
      · exact Or.inr ⟨by omega, h2, fun q => h3 ⟨q.1, by omega⟩, fun q => by omega⟩
  | x :: r, n + 2, j, h => by
    cases j with
    | zero =>
      simp only [stL, ldL] at h
      exact Or.inr ⟨by omega, h, fun q => by omega, fun q => by omega⟩
    | succ j =>
      simp only [stL, ldL] at h
      rcases ldL_st v w r (n + 1) j h with ⟨h1, h2⟩ | ⟨h1, h2, h3, h4⟩
      · exact Or.inl ⟨by omega, h2⟩
      · exact Or.inr ⟨by omega, h2, fun q => h3 ⟨q.1, by omega⟩, fun q => h4 ⟨by omega, q.2⟩⟩
/-- the listed pairs of a list of locals -/
def asc (ad : KK → Nat) (L : List (Option PV)) : List (Nat × Value) := (List.range L.length).filterMap (fun i => (ldL L i).map (fun v => (i, cv ad v)))
theorem ldL_lt : ∀ (L : List (Option PV)) (i : Nat) (v : PV), ldL L i = some v → i < L.length
  | [], i, v, h => by simp [ldL] at h
  | x :: r, 0, v, h => by simp
  | x :: r, i + 1, v, h => by have := ldL_lt r i v h; simp; omega
theorem mem_asc {ad : KK → Nat} {L : List (Option PV)} {q : Nat × Value} : q ∈ asc ad L ↔ ∃ v, ldL L q.1 = some v ∧ q.2 = cv ad v := by
  unfold asc
  rw [List.mem_filterMap]
  constructor
  · rintro ⟨i, -, h⟩
    obtain ⟨v, h1, h2⟩ := Option.map_eq_some_iff.mp h
    subst h2
    exact ⟨v, h1, rfl⟩
  · rintro ⟨v, h1, h2⟩
    exact ⟨q.1, List.mem_range.mpr (ldL_lt _ _ _ h1), by rw [h1]; obtain ⟨a, b⟩ := q; simp at h2 ⊢; exact h2.symm⟩
theorem LR_has {ad : KK → Nat} {L : List (Option PV)} {ls : Array Slot} {nL : Nat} (h : LR ad L ls nL) : lv_has ls nL (asc ad L) := by
  refine ⟨h.1, h.2.1, fun q hq => ?_⟩
  obtain ⟨v, h1, h2⟩ := mem_asc.mp hq
  rw [h2]
  exact h.2.2 q.1 v h1
theorem LR_of {ad : KK → Nat} {L : List (Option PV)} {ls : Array Slot} {nL : Nat} {l : List (Nat × Value)} (h : lv_has ls nL l) (hm : ∀ i v, ldL L i = some v → (i, cv ad v) ∈ l) : LR ad L ls nL := ⟨h.1, h.2.1, fun i v hv => h.2.2 _ (hm i v hv)⟩
theorem LR_st {ad : KK → Nat} {L : List (Option PV)} {ls' : Array Slot} {nL i : Nat} {v : PV} (hc : cat v = 1) (h : lv_has ls' nL ((i, cv ad v) :: (asc ad L).filter (fun q => !(q.1 == i) && !(q.1 + 1 == i && q.2.category == 2)))) : LR ad (stL L i v) ls' nL := by
  refine LR_of h fun j w hw => ?_
  rcases ldL_st v w L i j hw with ⟨h1, h2⟩ | ⟨h1, h2, h3, h4⟩
  · subst h1; subst h2; exact List.mem_cons_self
  · refine List.mem_cons_of_mem _ (List.mem_filter.mpr ⟨mem_asc.mpr ⟨w, h2, rfl⟩, ?_⟩)
    simp only [cv_cat, Bool.and_eq_true, Bool.not_eq_true', beq_eq_false_iff_ne, ne_eq, Bool.and_eq_false_iff]
    refine ⟨h1, ?_⟩
    by_cases e : j + 1 = i
    · exact Or.inr fun q => h4 ⟨e, q⟩
    · exact Or.inl e
theorem LR_st2 {ad : KK → Nat} {L : List (Option PV)} {ls' : Array Slot} {nL i : Nat} {v : PV} (hc : cat v = 2) (h : lv_has ls' nL ((i, cv ad v) :: (asc ad L).filter (fun q => !(q.1 == i) && (!(q.1 == i + 1) && !(q.1 + 1 == i && q.2.category == 2))))) : LR ad (stL L i v) ls' nL := by
  refine LR_of h fun j w hw => ?_
  rcases ldL_st v w L i j hw with ⟨h1, h2⟩ | ⟨h1, h2, h3, h4⟩
  · subst h1; subst h2; exact List.mem_cons_self
  · refine List.mem_cons_of_mem _ (List.mem_filter.mpr ⟨mem_asc.mpr ⟨w, h2, rfl⟩, ?_⟩)
    simp only [cv_cat, Bool.and_eq_true, Bool.not_eq_true', beq_eq_false_iff_ne, ne_eq, Bool.and_eq_false_iff]
    refine ⟨h1, fun q => h3 ⟨hc, q⟩, ?_⟩
    by_cases e : j + 1 = i
    · exact Or.inr fun q => h4 ⟨e, q⟩
    · exact Or.inl e
theorem okL_st {M : Mem} {L : List (Option PV)} {i : Nat} {v : PV} (h : okL M L) (hv : okv M v) : okL M (stL L i v) := by
  intro j w hw
  rcases ldL_st v w L i j hw with ⟨h1, h2⟩ | ⟨h1, h2, h3, h4⟩
  · rw [h2]; exact hv
  · exact h j w h2
