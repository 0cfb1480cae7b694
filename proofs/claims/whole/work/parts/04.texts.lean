/-- calls of a nest mate's private method -/
def NW : List Cond := [.methodLinkNest "TimeKeeper$Peer" 59 ⟨"TimeKeeper", "spread", "([JIJI)J"⟩ "TimeKeeper", .methodLinkNest "TimeKeeper$Row" 79 ⟨"TimeKeeper", "spread", "([JIJI)J"⟩ "TimeKeeper", .methodLinkNest "TimeKeeper$Choice" 122 ⟨"TimeKeeper", "spread", "([JIJI)J"⟩ "TimeKeeper", .declares ⟨"java/lang/RuntimeException", "<init>", "(Ljava/lang/String;)V"⟩, .declares ⟨"java/lang/Exception", "<init>", "(Ljava/lang/String;)V"⟩, .declares ⟨"java/lang/Throwable", "<init>", "(Ljava/lang/String;)V"⟩]
theorem NW_is : ∀ w ∈ NW, (∃ a i x b, w = Cond.methodLinkNest a i x b) ∨ ∃ x, w = Cond.declares x := by
  intro w hw
  simp only [NW, List.mem_cons, List.not_mem_nil, or_false] at hw
  rcases hw with rfl | rfl | rfl | rfl | rfl | rfl <;> first | exact Or.inl ⟨_, _, _, _, rfl⟩ | exact Or.inr ⟨_, rfl⟩
theorem NW_in : ∀ w ∈ NW, w ∈ lw_tbl := by decide +kernel
/-- the texts of exceptions -/
def XS : List (String × Nat × String) := [("TimeKeeper", 44, "n is not 1 .. 8"), ("TimeKeeper", 55, "the tape has no room"), ("TimeKeeper", 63, "no such byte"), ("TimeKeeper", 66, "v is not 0 .. 255"), ("TimeKeeper", 72, "n is not 0 .. 4096"), ("TimeKeeper", 86, "d is not -2000000 .. 2000000"), ("TimeKeeper", 244, "no such peer"), ("TimeKeeper", 163, "stratum is not 0 .. 255"), ("TimeKeeper", 165, "a root number is below 0"), ("TimeKeeper", 171, "out, held or back is not 0 .. 2^40"), ("TimeKeeper", 173, "what is not 0 .. 9"), ("TimeKeeper", 178, "the peer has no sample"), ("TimeKeeper", 201, "no such sample"), ("TimeKeeper", 206, "what is not 0 .. 2"), ("TimeKeeper", 217, "what is not 0 .. 10"), ("TimeKeeper", 223, "no update had survivors yet")]
def XP : List (Nat × Nat) := [(0, 1), (0, 2), (1, 0), (1, 2), (2, 0), (2, 1)]
