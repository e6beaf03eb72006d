def RX0 : String := "BookmarkManager$Book"
def TX0 : u_T := fun k => match k with
  | 0 => ("BookmarkManager$Book", "ids", "[I", true)
  | 1 => ("BookmarkManager$Book", "pages", "[I", true)
  | 2 => ("BookmarkManager$Book", "weights", "[I", true)
  | 3 => ("BookmarkManager$Book", "wears", "[I", true)
  | 4 => ("BookmarkManager$Book", "seats", "[I", true)
  | 5 => ("BookmarkManager$Book", "starts", "[I", true)
  | 6 => ("BookmarkManager$Book", "marks", "I", false)
  | 7 => ("BookmarkManager$Book", "chapters", "I", false)
  | 8 => ("BookmarkManager$Book", "reader", "I", false)
  | 9 => ("BookmarkManager$Book", "nextId", "I", false)
  | 10 => ("BookmarkManager$Book", "votes", "I", false)
  | 11 => ("BookmarkManager$Book", "carried", "I", false)
  | _ => ("BookmarkManager$Book", "fallen", "I", false)
def tyX0 : Nat → FieldType := fun k => match k with
  | 0 => .array .int
  | 1 => .array .int
  | 2 => .array .int
  | 3 => .array .int
  | 4 => .array .int
  | 5 => .array .int
  | 6 => .int
  | 7 => .int
  | 8 => .int
  | 9 => .int
  | 10 => .int
  | 11 => .int
  | _ => .int
abbrev wsX00 : List Cond := u_ws RX0 TX0 13
theorem nmX0 : ∀ a, a < 13 → ∀ b, b < 13 → a ≠ b → (TX0 a).2.1 ≠ (TX0 b).2.1 := by decide +kernel
theorem tyX0_ok : ∀ k, k < 13 → parseFieldDescriptor (TX0 k).2.2.1 = some (tyX0 k) := by decide +kernel
def RX1 : String := "BookmarkManager$History"
def TX1 : u_T := fun k => match k with
  | 0 => ("BookmarkManager$History", "states", "[LBookmarkManager$Book;", true)
  | 1 => ("BookmarkManager$History", "count", "I", false)
  | _ => ("BookmarkManager$History", "next", "I", false)
def tyX1 : Nat → FieldType := fun k => match k with
  | 0 => .array (.object "BookmarkManager$Book")
  | 1 => .int
  | _ => .int
abbrev wsX10 : List Cond := u_ws RX1 TX1 3
theorem nmX1 : ∀ a, a < 3 → ∀ b, b < 3 → a ≠ b → (TX1 a).2.1 ≠ (TX1 b).2.1 := by decide +kernel
theorem tyX1_ok : ∀ k, k < 3 → parseFieldDescriptor (TX1 k).2.2.1 = some (tyX1 k) := by decide +kernel
def RX2 : String := "BookmarkManager$Script"
def TX2 : u_T := fun k => match k with
  | 0 => ("BookmarkManager$Script", "input", "[C", true)
  | 1 => ("BookmarkManager$Script", "kinds", "[C", true)
  | 2 => ("BookmarkManager$Script", "firsts", "[I", true)
  | 3 => ("BookmarkManager$Script", "seconds", "[I", true)
  | 4 => ("BookmarkManager$Script", "length", "I", false)
  | 5 => ("BookmarkManager$Script", "commands", "I", false)
  | _ => ("BookmarkManager$Script", "at", "I", false)
def tyX2 : Nat → FieldType := fun k => match k with
  | 0 => .array .char
  | 1 => .array .char
  | 2 => .array .int
  | 3 => .array .int
  | 4 => .int
  | 5 => .int
  | _ => .int
abbrev wsX20 : List Cond := u_ws RX2 TX2 7
theorem nmX2 : ∀ a, a < 7 → ∀ b, b < 7 → a ≠ b → (TX2 a).2.1 ≠ (TX2 b).2.1 := by decide +kernel
theorem tyX2_ok : ∀ k, k < 7 → parseFieldDescriptor (TX2 k).2.2.1 = some (tyX2 k) := by decide +kernel
def RX3 : String := "BookmarkManager"
def TX3 : u_T := fun k => match k with
  | 0 => ("BookmarkManager", "book", "LBookmarkManager$Book;", true)
  | 1 => ("BookmarkManager", "beforeCommands", "LBookmarkManager$Book;", true)
  | 2 => ("BookmarkManager", "snapshot", "LBookmarkManager$Book;", true)
  | 3 => ("BookmarkManager", "history", "LBookmarkManager$History;", true)
  | 4 => ("BookmarkManager", "script", "LBookmarkManager$Script;", true)
  | 5 => ("BookmarkManager", "output", "Ljava/lang/StringBuilder;", true)
  | 6 => ("BookmarkManager", "hasSnapshot", "Z", false)
  | 7 => ("BookmarkManager", "latestSyntaxError", "I", false)
  | 8 => ("BookmarkManager", "latestReason", "I", false)
  | 9 => ("BookmarkManager", "latestDetail", "I", false)
  | _ => ("BookmarkManager", "latestCause", "I", false)
def tyX3 : Nat → FieldType := fun k => match k with
  | 0 => .object "BookmarkManager$Book"
  | 1 => .object "BookmarkManager$Book"
  | 2 => .object "BookmarkManager$Book"
  | 3 => .object "BookmarkManager$History"
  | 4 => .object "BookmarkManager$Script"
  | 5 => .object "java/lang/StringBuilder"
  | 6 => .boolean
  | 7 => .int
  | 8 => .int
  | 9 => .int
  | _ => .int
abbrev wsX30 : List Cond := u_ws RX3 TX3 11
theorem nmX3 : ∀ a, a < 11 → ∀ b, b < 11 → a ≠ b → (TX3 a).2.1 ≠ (TX3 b).2.1 := by decide +kernel
theorem tyX3_ok : ∀ k, k < 11 → parseFieldDescriptor (TX3 k).2.2.1 = some (tyX3 k) := by decide +kernel
def RJ0 : String := "java/lang/String"
def TJ0 : u_T := fun k => match k with
  | 0 => ("java/lang/String", "value", "[B", true)
  | 1 => ("java/lang/String", "coder", "B", true)
  | 2 => ("java/lang/String", "hash", "I", false)
  | _ => ("java/lang/String", "hashIsZero", "Z", false)
def tyJ0 : Nat → FieldType := fun k => match k with
  | 0 => .array .byte
  | 1 => .byte
  | 2 => .int
  | _ => .boolean
abbrev wsJ00 : List Cond := u_ws RJ0 TJ0 4
theorem nmJ0 : ∀ a, a < 4 → ∀ b, b < 4 → a ≠ b → (TJ0 a).2.1 ≠ (TJ0 b).2.1 := by decide +kernel
theorem tyJ0_ok : ∀ k, k < 4 → parseFieldDescriptor (TJ0 k).2.2.1 = some (tyJ0 k) := by decide +kernel
def RJ4 : String := "java/lang/StringBuilder"
def TJ4 : u_T := fun k => match k with
  | 0 => ("java/lang/AbstractStringBuilder", "value", "[B", false)
  | 1 => ("java/lang/AbstractStringBuilder", "coder", "B", false)
  | 2 => ("java/lang/AbstractStringBuilder", "maybeLatin1", "Z", false)
  | _ => ("java/lang/AbstractStringBuilder", "count", "I", false)
def tyJ4 : Nat → FieldType := fun k => match k with
  | 0 => .array .byte
  | 1 => .byte
  | 2 => .boolean
  | _ => .int
abbrev wsJ40 : List Cond := u_ws RJ4 TJ4 4
theorem nmJ4 : ∀ a, a < 4 → ∀ b, b < 4 → a ≠ b → (TJ4 a).2.1 ≠ (TJ4 b).2.1 := by decide +kernel
theorem tyJ4_ok : ∀ k, k < 4 → parseFieldDescriptor (TJ4 k).2.2.1 = some (tyJ4 k) := by decide +kernel
abbrev cl0 : List vw_C := [(RX0, TX0, 13), (RX1, TX1, 3), (RX2, TX2, 7), (RX3, TX3, 11), (RJ0, TJ0, 4), (RJ4, TJ4, 4)]
def RL : String := "BookmarkManagerLaw"
