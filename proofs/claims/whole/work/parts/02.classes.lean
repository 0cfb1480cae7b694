def T_TK : u_T := fun k => match k with
  | 0 => ("TimeKeeper", "tape", "LTimeKeeper$Packet;", true)
  | 1 => ("TimeKeeper", "outgoing", "LTimeKeeper$Packet;", true)
  | 2 => ("TimeKeeper", "timepiece", "LTimeKeeper$Timepiece;", true)
  | 3 => ("TimeKeeper", "peers", "[LTimeKeeper$Peer;", true)
  | _ => ("TimeKeeper", "choice", "LTimeKeeper$Choice;", true)
def t_TK : Nat → FieldType := fun k => match k with
  | 0 => .object "TimeKeeper$Packet"
  | 1 => .object "TimeKeeper$Packet"
  | 2 => .object "TimeKeeper$Timepiece"
  | 3 => .array (.object "TimeKeeper$Peer")
  | _ => .object "TimeKeeper$Choice"
theorem nm_TK : ∀ a, a < 5 → ∀ b, b < 5 → a ≠ b → (T_TK a).2.1 ≠ (T_TK b).2.1 := by decide +kernel
theorem ty_TK : ∀ k, k < 5 → parseFieldDescriptor (T_TK k).2.2.1 = some (t_TK k) := by decide +kernel
def T_PK : u_T := fun k => match k with
  | 0 => ("TimeKeeper$Packet", "bytes", "[I", true)
  | _ => ("TimeKeeper$Packet", "length", "I", false)
def t_PK : Nat → FieldType := fun k => match k with
  | 0 => .array .int
  | _ => .int
theorem nm_PK : ∀ a, a < 2 → ∀ b, b < 2 → a ≠ b → (T_PK a).2.1 ≠ (T_PK b).2.1 := by decide +kernel
theorem ty_PK : ∀ k, k < 2 → parseFieldDescriptor (T_PK k).2.2.1 = some (t_PK k) := by decide +kernel
def T_TP : u_T := fun k => match k with
  | 0 => ("TimeKeeper$Timepiece", "stamp", "J", false)
  | 1 => ("TimeKeeper$Timepiece", "uptime", "I", false)
  | 2 => ("TimeKeeper$Timepiece", "drift", "I", false)
  | 3 => ("TimeKeeper$Timepiece", "rate", "J", false)
  | 4 => ("TimeKeeper$Timepiece", "rest", "J", false)
  | 5 => ("TimeKeeper$Timepiece", "poll", "I", false)
  | 6 => ("TimeKeeper$Timepiece", "count", "I", false)
  | 7 => ("TimeKeeper$Timepiece", "ledAt", "I", false)
  | 8 => ("TimeKeeper$Timepiece", "timesLed", "I", false)
  | _ => ("TimeKeeper$Timepiece", "timesStepped", "I", false)
def t_TP : Nat → FieldType := fun k => match k with
  | 0 => .long
  | 1 => .int
  | 2 => .int
  | 3 => .long
  | 4 => .long
  | 5 => .int
  | 6 => .int
  | 7 => .int
  | 8 => .int
  | _ => .int
theorem nm_TP : ∀ a, a < 10 → ∀ b, b < 10 → a ≠ b → (T_TP a).2.1 ≠ (T_TP b).2.1 := by decide +kernel
theorem ty_TP : ∀ k, k < 10 → parseFieldDescriptor (T_TP k).2.2.1 = some (t_TP k) := by decide +kernel
def T_PE : u_T := fun k => match k with
  | 0 => ("TimeKeeper$Peer", "sent", "J", false)
  | 1 => ("TimeKeeper$Peer", "last", "J", false)
  | 2 => ("TimeKeeper$Peer", "reach", "I", false)
  | 3 => ("TimeKeeper$Peer", "stratum", "I", false)
  | 4 => ("TimeKeeper$Peer", "rootDelay", "J", false)
  | 5 => ("TimeKeeper$Peer", "rootDispersion", "J", false)
  | 6 => ("TimeKeeper$Peer", "count", "I", false)
  | 7 => ("TimeKeeper$Peer", "jitter", "J", false)
  | 8 => ("TimeKeeper$Peer", "offsets", "[J", true)
  | 9 => ("TimeKeeper$Peer", "delays", "[J", true)
  | 10 => ("TimeKeeper$Peer", "dispersions", "[J", true)
  | 11 => ("TimeKeeper$Peer", "times", "[I", true)
  | 12 => ("TimeKeeper$Peer", "order", "[I", true)
  | _ => ("TimeKeeper$Peer", "timeLookedAt", "I", false)
def t_PE : Nat → FieldType := fun k => match k with
  | 0 => .long
  | 1 => .long
  | 2 => .int
  | 3 => .int
  | 4 => .long
  | 5 => .long
  | 6 => .int
  | 7 => .long
  | 8 => .array .long
  | 9 => .array .long
  | 10 => .array .long
  | 11 => .array .int
  | 12 => .array .int
  | _ => .int
theorem nm_PE : ∀ a, a < 14 → ∀ b, b < 14 → a ≠ b → (T_PE a).2.1 ≠ (T_PE b).2.1 := by decide +kernel
theorem ty_PE : ∀ k, k < 14 → parseFieldDescriptor (T_PE k).2.2.1 = some (t_PE k) := by decide +kernel
def T_CH : u_T := fun k => match k with
  | 0 => ("TimeKeeper$Choice", "row", "LTimeKeeper$Row;", true)
  | 1 => ("TimeKeeper$Choice", "candidates", "I", false)
  | 2 => ("TimeKeeper$Choice", "survivors", "I", false)
  | 3 => ("TimeKeeper$Choice", "left", "I", false)
  | 4 => ("TimeKeeper$Choice", "isMade", "Z", false)
  | 5 => ("TimeKeeper$Choice", "offset", "J", false)
  | 6 => ("TimeKeeper$Choice", "jitter", "J", false)
  | 7 => ("TimeKeeper$Choice", "stratum", "I", false)
  | 8 => ("TimeKeeper$Choice", "low", "J", false)
  | _ => ("TimeKeeper$Choice", "high", "J", false)
def t_CH : Nat → FieldType := fun k => match k with
  | 0 => .object "TimeKeeper$Row"
  | 1 => .int
  | 2 => .int
  | 3 => .int
  | 4 => .boolean
  | 5 => .long
  | 6 => .long
  | 7 => .int
  | 8 => .long
  | _ => .long
theorem nm_CH : ∀ a, a < 10 → ∀ b, b < 10 → a ≠ b → (T_CH a).2.1 ≠ (T_CH b).2.1 := by decide +kernel
theorem ty_CH : ∀ k, k < 10 → parseFieldDescriptor (T_CH k).2.2.1 = some (t_CH k) := by decide +kernel
def T_RW : u_T := fun k => match k with
  | 0 => ("TimeKeeper$Row", "numbers", "[I", true)
  | 1 => ("TimeKeeper$Row", "strata", "[I", true)
  | 2 => ("TimeKeeper$Row", "offsets", "[J", true)
  | 3 => ("TimeKeeper$Row", "distances", "[J", true)
  | 4 => ("TimeKeeper$Row", "jitters", "[J", true)
  | _ => ("TimeKeeper$Row", "length", "I", false)
def t_RW : Nat → FieldType := fun k => match k with
  | 0 => .array .int
  | 1 => .array .int
  | 2 => .array .long
  | 3 => .array .long
  | 4 => .array .long
  | _ => .int
theorem nm_RW : ∀ a, a < 6 → ∀ b, b < 6 → a ≠ b → (T_RW a).2.1 ≠ (T_RW b).2.1 := by decide +kernel
theorem ty_RW : ∀ k, k < 6 → parseFieldDescriptor (T_RW k).2.2.1 = some (t_RW k) := by decide +kernel
def T_MO : u_T := fun k => match k with
  | 0 => ("TimeKeeperModel", "code", "I", false)
  | 1 => ("TimeKeeperModel", "tape", "[I", true)
  | 2 => ("TimeKeeperModel", "taped", "I", false)
  | 3 => ("TimeKeeperModel", "out", "[I", true)
  | 4 => ("TimeKeeperModel", "outs", "I", false)
  | 5 => ("TimeKeeperModel", "clock", "J", false)
  | 6 => ("TimeKeeperModel", "uptime", "I", false)
  | 7 => ("TimeKeeperModel", "drift", "J", false)
  | 8 => ("TimeKeeperModel", "rate", "J", false)
  | 9 => ("TimeKeeperModel", "rest", "J", false)
  | 10 => ("TimeKeeperModel", "sent", "[J", true)
  | 11 => ("TimeKeeperModel", "last", "[J", true)
  | 12 => ("TimeKeeperModel", "reach", "[I", true)
  | 13 => ("TimeKeeperModel", "stratum", "[I", true)
  | 14 => ("TimeKeeperModel", "rootDelay", "[J", true)
  | 15 => ("TimeKeeperModel", "rootDispersion", "[J", true)
  | 16 => ("TimeKeeperModel", "count", "[I", true)
  | 17 => ("TimeKeeperModel", "looked", "[I", true)
  | 18 => ("TimeKeeperModel", "offsets", "[J", true)
  | 19 => ("TimeKeeperModel", "delays", "[J", true)
  | 20 => ("TimeKeeperModel", "dispersions", "[J", true)
  | 21 => ("TimeKeeperModel", "times", "[I", true)
  | 22 => ("TimeKeeperModel", "candidates", "I", false)
  | 23 => ("TimeKeeperModel", "survivors", "I", false)
  | 24 => ("TimeKeeperModel", "ended", "I", false)
  | 25 => ("TimeKeeperModel", "had", "Z", false)
  | 26 => ("TimeKeeperModel", "theOffset", "J", false)
  | 27 => ("TimeKeeperModel", "theJitter", "J", false)
  | 28 => ("TimeKeeperModel", "theStratum", "I", false)
  | 29 => ("TimeKeeperModel", "theLow", "J", false)
  | 30 => ("TimeKeeperModel", "theHigh", "J", false)
  | 31 => ("TimeKeeperModel", "row", "[I", true)
  | 32 => ("TimeKeeperModel", "rowSize", "I", false)
  | 33 => ("TimeKeeperModel", "poll", "I", false)
  | 34 => ("TimeKeeperModel", "counted", "I", false)
  | 35 => ("TimeKeeperModel", "steps", "I", false)
  | 36 => ("TimeKeeperModel", "leads", "I", false)
  | _ => ("TimeKeeperModel", "ledAt", "I", false)
def t_MO : Nat → FieldType := fun k => match k with
  | 0 => .int
  | 1 => .array .int
  | 2 => .int
  | 3 => .array .int
  | 4 => .int
  | 5 => .long
  | 6 => .int
  | 7 => .long
  | 8 => .long
  | 9 => .long
  | 10 => .array .long
  | 11 => .array .long
  | 12 => .array .int
  | 13 => .array .int
  | 14 => .array .long
  | 15 => .array .long
  | 16 => .array .int
  | 17 => .array .int
  | 18 => .array .long
  | 19 => .array .long
  | 20 => .array .long
  | 21 => .array .int
  | 22 => .int
  | 23 => .int
  | 24 => .int
  | 25 => .boolean
  | 26 => .long
  | 27 => .long
  | 28 => .int
  | 29 => .long
  | 30 => .long
  | 31 => .array .int
  | 32 => .int
  | 33 => .int
  | 34 => .int
  | 35 => .int
  | 36 => .int
  | _ => .int
theorem nm_MO : ∀ a, a < 38 → ∀ b, b < 38 → a ≠ b → (T_MO a).2.1 ≠ (T_MO b).2.1 := by decide +kernel
theorem ty_MO : ∀ k, k < 38 → parseFieldDescriptor (T_MO k).2.2.1 = some (t_MO k) := by decide +kernel
abbrev classes : List vw_C := [("TimeKeeper", T_TK, 5), ("TimeKeeper$Packet", T_PK, 2), ("TimeKeeper$Timepiece", T_TP, 10), ("TimeKeeper$Peer", T_PE, 14), ("TimeKeeper$Choice", T_CH, 10), ("TimeKeeper$Row", T_RW, 6), ("TimeKeeperModel", T_MO, 38)]
theorem in_TK : ∀ w ∈ u_ws "TimeKeeper" T_TK 5, w ∈ GW := by decide +kernel
theorem in_PK : ∀ w ∈ u_ws "TimeKeeper$Packet" T_PK 2, w ∈ GW := by decide +kernel
theorem in_TP : ∀ w ∈ u_ws "TimeKeeper$Timepiece" T_TP 10, w ∈ GW := by decide +kernel
theorem in_PE : ∀ w ∈ u_ws "TimeKeeper$Peer" T_PE 14, w ∈ GW := by decide +kernel
theorem in_CH : ∀ w ∈ u_ws "TimeKeeper$Choice" T_CH 10, w ∈ GW := by decide +kernel
theorem in_RW : ∀ w ∈ u_ws "TimeKeeper$Row" T_RW 6, w ∈ GW := by decide +kernel
theorem in_MO : ∀ w ∈ u_ws "TimeKeeperModel" T_MO 38, w ∈ GW := by decide +kernel
def fty (ci : Nat) : Nat → FieldType := match ci with
  | 0 => t_TK
  | 1 => t_PK
  | 2 => t_TP
  | 3 => t_PE
  | 4 => t_CH
  | 5 => t_RW
  | _ => t_MO
def nfl (ci : Nat) : Nat := match ci with
  | 0 => 5
  | 1 => 2
  | 2 => 10
  | 3 => 14
  | 4 => 10
  | 5 => 6
  | _ => 38
def cnm (ci : Nat) : String := match ci with
  | 0 => "TimeKeeper"
  | 1 => "TimeKeeper$Packet"
  | 2 => "TimeKeeper$Timepiece"
  | 3 => "TimeKeeper$Peer"
  | 4 => "TimeKeeper$Choice"
  | 5 => "TimeKeeper$Row"
  | _ => "TimeKeeperModel"
def cT (ci : Nat) : u_T := match ci with
  | 0 => T_TK
  | 1 => T_PK
  | 2 => T_TP
  | 3 => T_PE
  | 4 => T_CH
  | 5 => T_RW
  | _ => T_MO
theorem cls_at (ci : Nat) (h : ci < 7) : classes[ci]? = some (cnm ci, cT ci, nfl ci) := by
  match ci, h with
  | 0, _ => rfl
  | 1, _ => rfl
  | 2, _ => rfl
  | 3, _ => rfl
  | 4, _ => rfl
  | 5, _ => rfl
  | 6, _ => rfl
theorem cls_in (ci : Nat) (h : ci < 7) : ∀ w ∈ u_ws (cnm ci) (cT ci) (nfl ci), w ∈ GW := by
  match ci, h with
  | 0, _ => exact in_TK
  | 1, _ => exact in_PK
  | 2, _ => exact in_TP
  | 3, _ => exact in_PE
  | 4, _ => exact in_CH
  | 5, _ => exact in_RW
  | 6, _ => exact in_MO
theorem cls_ty (ci : Nat) (h : ci < 7) : ∀ k, k < nfl ci → parseFieldDescriptor (cT ci k).2.2.1 = some (fty ci k) := by
  match ci, h with
  | 0, _ => exact ty_TK
  | 1, _ => exact ty_PK
  | 2, _ => exact ty_TP
  | 3, _ => exact ty_PE
  | 4, _ => exact ty_CH
  | 5, _ => exact ty_RW
  | 6, _ => exact ty_MO
theorem cls_nm (ci : Nat) (h : ci < 7) : ∀ a, a < nfl ci → ∀ b, b < nfl ci → a ≠ b → (cT ci a).2.1 ≠ (cT ci b).2.1 := by
  match ci, h with
  | 0, _ => exact nm_TK
  | 1, _ => exact nm_PK
  | 2, _ => exact nm_TP
  | 3, _ => exact nm_PE
  | 4, _ => exact nm_CH
  | 5, _ => exact nm_RW
  | 6, _ => exact nm_MO
