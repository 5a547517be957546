def RX0 : String := "EndsWord$Acts"
def TX0 : u_T := fun k => match k with
  | 0 => ("EndsWord$Acts", "began", "LEndsWord$Line;", true)
  | _ => ("EndsWord$Acts", "ran", "I", false)
def tyX0 : Nat → FieldType := fun k => match k with
  | 0 => .object "EndsWord$Line"
  | _ => .int
abbrev wsX00 : List Cond := u_ws RX0 TX0 2
theorem nmX0 : ∀ a, a < 2 → ∀ b, b < 2 → a ≠ b → (TX0 a).2.1 ≠ (TX0 b).2.1 := by decide +kernel
theorem tyX0_ok : ∀ k, k < 2 → parseFieldDescriptor (TX0 k).2.2.1 = some (tyX0 k) := by decide +kernel
def RX1 : String := "EndsWord$Book"
def TX1 : u_T := fun k => match k with
  | 0 => ("EndsWord$Book", "words", "[LEndsWord$Line;", true)
  | 1 => ("EndsWord$Book", "common", "[I", true)
  | 2 => ("EndsWord$Book", "placed", "[I", true)
  | 3 => ("EndsWord$Book", "ofLength", "[I", true)
  | 4 => ("EndsWord$Book", "lost", "[I", true)
  | _ => ("EndsWord$Book", "size", "I", false)
def tyX1 : Nat → FieldType := fun k => match k with
  | 0 => .array (.object "EndsWord$Line")
  | 1 => .array .int
  | 2 => .array .int
  | 3 => .array .int
  | 4 => .array .int
  | _ => .int
abbrev wsX10 : List Cond := u_ws RX1 TX1 6
theorem nmX1 : ∀ a, a < 6 → ∀ b, b < 6 → a ≠ b → (TX1 a).2.1 ≠ (TX1 b).2.1 := by decide +kernel
theorem tyX1_ok : ∀ k, k < 6 → parseFieldDescriptor (TX1 k).2.2.1 = some (tyX1 k) := by decide +kernel
def RX2 : String := "EndsWord$Game"
def TX2 : u_T := fun k => match k with
  | 0 => ("EndsWord$Game", "book", "LEndsWord$Book;", true)
  | 1 => ("EndsWord$Game", "players", "[LEndsWord$Player;", true)
  | 2 => ("EndsWord$Game", "size", "I", false)
  | 3 => ("EndsWord$Game", "round", "LEndsWord$Round;", true)
  | 4 => ("EndsWord$Game", "seenOf", "LEndsWord$Line;", true)
  | 5 => ("EndsWord$Game", "seenWord", "LEndsWord$Line;", true)
  | 6 => ("EndsWord$Game", "seenLetters", "LEndsWord$Line;", true)
  | 7 => ("EndsWord$Game", "sheet", "LEndsWord$Line;", true)
  | 8 => ("EndsWord$Game", "table", "LEndsWord$Table;", false)
  | _ => ("EndsWord$Game", "known", "[I", true)
def tyX2 : Nat → FieldType := fun k => match k with
  | 0 => .object "EndsWord$Book"
  | 1 => .array (.object "EndsWord$Player")
  | 2 => .int
  | 3 => .object "EndsWord$Round"
  | 4 => .object "EndsWord$Line"
  | 5 => .object "EndsWord$Line"
  | 6 => .object "EndsWord$Line"
  | 7 => .object "EndsWord$Line"
  | 8 => .object "EndsWord$Table"
  | _ => .array .int
abbrev wsX20 : List Cond := u_ws RX2 TX2 10
theorem nmX2 : ∀ a, a < 10 → ∀ b, b < 10 → a ≠ b → (TX2 a).2.1 ≠ (TX2 b).2.1 := by decide +kernel
theorem tyX2_ok : ∀ k, k < 10 → parseFieldDescriptor (TX2 k).2.2.1 = some (tyX2 k) := by decide +kernel
def RX3 : String := "EndsWord$Line"
def TX3 : u_T := fun k => match k with
  | 0 => ("EndsWord$Line", "items", "[I", true)
  | _ => ("EndsWord$Line", "size", "I", false)
def tyX3 : Nat → FieldType := fun k => match k with
  | 0 => .array .int
  | _ => .int
abbrev wsX30 : List Cond := u_ws RX3 TX3 2
theorem nmX3 : ∀ a, a < 2 → ∀ b, b < 2 → a ≠ b → (TX3 a).2.1 ≠ (TX3 b).2.1 := by decide +kernel
theorem tyX3_ok : ∀ k, k < 2 → parseFieldDescriptor (TX3 k).2.2.1 = some (tyX3 k) := by decide +kernel
def RX4 : String := "EndsWord$Player"
def TX4 : u_T := fun k => match k with
  | 0 => ("EndsWord$Player", "parts", "[I", true)
  | 1 => ("EndsWord$Player", "number", "I", false)
  | 2 => ("EndsWord$Player", "kind", "I", false)
  | _ => ("EndsWord$Player", "v", "I", false)
def tyX4 : Nat → FieldType := fun k => match k with
  | 0 => .array .int
  | 1 => .int
  | 2 => .int
  | _ => .int
abbrev wsX40 : List Cond := u_ws RX4 TX4 4
theorem nmX4 : ∀ a, a < 4 → ∀ b, b < 4 → a ≠ b → (TX4 a).2.1 ≠ (TX4 b).2.1 := by decide +kernel
theorem tyX4_ok : ∀ k, k < 4 → parseFieldDescriptor (TX4 k).2.2.1 = some (tyX4 k) := by decide +kernel
def RX5 : String := "EndsWord$Reader"
def TX5 : u_T := fun k => match k with
  | 0 => ("EndsWord$Reader", "text", "LEndsWord$Line;", false)
  | 1 => ("EndsWord$Reader", "table", "LEndsWord$Table;", false)
  | 2 => ("EndsWord$Reader", "at", "I", false)
  | _ => ("EndsWord$Reader", "failed", "Z", false)
def tyX5 : Nat → FieldType := fun k => match k with
  | 0 => .object "EndsWord$Line"
  | 1 => .object "EndsWord$Table"
  | 2 => .int
  | _ => .boolean
abbrev wsX50 : List Cond := u_ws RX5 TX5 4
theorem nmX5 : ∀ a, a < 4 → ∀ b, b < 4 → a ≠ b → (TX5 a).2.1 ≠ (TX5 b).2.1 := by decide +kernel
theorem tyX5_ok : ∀ k, k < 4 → parseFieldDescriptor (TX5 k).2.2.1 = some (tyX5 k) := by decide +kernel
def RX6 : String := "EndsWord$Round"
def TX6 : u_T := fun k => match k with
  | 0 => ("EndsWord$Round", "row", "LEndsWord$Line;", true)
  | 1 => ("EndsWord$Round", "lives", "[I", true)
  | 2 => ("EndsWord$Round", "next", "I", false)
  | 3 => ("EndsWord$Round", "last", "I", false)
  | _ => ("EndsWord$Round", "loser", "I", false)
def tyX6 : Nat → FieldType := fun k => match k with
  | 0 => .object "EndsWord$Line"
  | 1 => .array .int
  | 2 => .int
  | 3 => .int
  | _ => .int
abbrev wsX60 : List Cond := u_ws RX6 TX6 5
theorem nmX6 : ∀ a, a < 5 → ∀ b, b < 5 → a ≠ b → (TX6 a).2.1 ≠ (TX6 b).2.1 := by decide +kernel
theorem tyX6_ok : ∀ k, k < 5 → parseFieldDescriptor (TX6 k).2.2.1 = some (tyX6 k) := by decide +kernel
def RX7 : String := "EndsWord$Table"
def TX7 : u_T := fun k => match k with
  | 0 => ("EndsWord$Table", "steps", "[I", true)
  | 1 => ("EndsWord$Table", "open", "[I", true)
  | 2 => ("EndsWord$Table", "size", "I", false)
  | 3 => ("EndsWord$Table", "least", "I", false)
  | _ => ("EndsWord$Table", "lives", "I", false)
def tyX7 : Nat → FieldType := fun k => match k with
  | 0 => .array .int
  | 1 => .array .int
  | 2 => .int
  | 3 => .int
  | _ => .int
abbrev wsX70 : List Cond := u_ws RX7 TX7 5
theorem nmX7 : ∀ a, a < 5 → ∀ b, b < 5 → a ≠ b → (TX7 a).2.1 ≠ (TX7 b).2.1 := by decide +kernel
theorem tyX7_ok : ∀ k, k < 5 → parseFieldDescriptor (TX7 k).2.2.1 = some (tyX7 k) := by decide +kernel
def RX8 : String := "EndsWord$Tape"
def TX8 : u_T := fun k => match k with
  | 0 => ("EndsWord$Tape", "items", "[J", true)
  | 1 => ("EndsWord$Tape", "sort", "I", false)
  | _ => ("EndsWord$Tape", "size", "I", false)
def tyX8 : Nat → FieldType := fun k => match k with
  | 0 => .array .long
  | 1 => .int
  | _ => .int
abbrev wsX80 : List Cond := u_ws RX8 TX8 3
theorem nmX8 : ∀ a, a < 3 → ∀ b, b < 3 → a ≠ b → (TX8 a).2.1 ≠ (TX8 b).2.1 := by decide +kernel
theorem tyX8_ok : ∀ k, k < 3 → parseFieldDescriptor (TX8 k).2.2.1 = some (tyX8 k) := by decide +kernel
def RX9 : String := "EndsWord"
def TX9 : u_T := fun k => match k with
  | 0 => ("EndsWord", "spelled", "LEndsWord$Line;", true)
  | 1 => ("EndsWord", "text", "LEndsWord$Line;", true)
  | 2 => ("EndsWord", "reader", "LEndsWord$Reader;", true)
  | 3 => ("EndsWord", "tables", "[LEndsWord$Table;", true)
  | 4 => ("EndsWord", "tablesMade", "I", false)
  | 5 => ("EndsWord", "now", "LEndsWord$Game;", true)
  | 6 => ("EndsWord", "kept", "LEndsWord$Game;", true)
  | 7 => ("EndsWord", "imageTaken", "Z", false)
  | 8 => ("EndsWord", "ahead", "LEndsWord$Round;", true)
  | 9 => ("EndsWord", "acts", "LEndsWord$Acts;", true)
  | _ => ("EndsWord", "tapes", "[LEndsWord$Tape;", true)
def tyX9 : Nat → FieldType := fun k => match k with
  | 0 => .object "EndsWord$Line"
  | 1 => .object "EndsWord$Line"
  | 2 => .object "EndsWord$Reader"
  | 3 => .array (.object "EndsWord$Table")
  | 4 => .int
  | 5 => .object "EndsWord$Game"
  | 6 => .object "EndsWord$Game"
  | 7 => .boolean
  | 8 => .object "EndsWord$Round"
  | 9 => .object "EndsWord$Acts"
  | _ => .array (.object "EndsWord$Tape")
abbrev wsX90 : List Cond := u_ws RX9 TX9 11
theorem nmX9 : ∀ a, a < 11 → ∀ b, b < 11 → a ≠ b → (TX9 a).2.1 ≠ (TX9 b).2.1 := by decide +kernel
theorem tyX9_ok : ∀ k, k < 11 → parseFieldDescriptor (TX9 k).2.2.1 = some (tyX9 k) := by decide +kernel
def RX10 : String := "EndsWordModel"
def TX10 : u_T := fun k => match k with
  | 0 => ("EndsWordModel", "words", "I", false)
  | 1 => ("EndsWordModel", "spelled", "I", false)
  | 2 => ("EndsWordModel", "glyphs", "[I", true)
  | 3 => ("EndsWordModel", "size", "[I", true)
  | 4 => ("EndsWordModel", "common", "[I", true)
  | 5 => ("EndsWordModel", "spell", "[I", true)
  | 6 => ("EndsWordModel", "players", "I", false)
  | 7 => ("EndsWordModel", "next", "I", false)
  | 8 => ("EndsWordModel", "last", "I", false)
  | 9 => ("EndsWordModel", "long0", "I", false)
  | 10 => ("EndsWordModel", "kind", "[I", true)
  | 11 => ("EndsWordModel", "v", "[I", true)
  | 12 => ("EndsWordModel", "lives", "[I", true)
  | 13 => ("EndsWordModel", "rows", "[I", true)
  | 14 => ("EndsWordModel", "row", "[I", true)
  | 15 => ("EndsWordModel", "tables", "I", false)
  | 16 => ("EndsWordModel", "the", "I", false)
  | 17 => ("EndsWordModel", "fed", "I", false)
  | 18 => ("EndsWordModel", "at", "I", false)
  | 19 => ("EndsWordModel", "digits", "I", false)
  | 20 => ("EndsWordModel", "text", "[I", true)
  | 21 => ("EndsWordModel", "clauses", "[I", true)
  | 22 => ("EndsWordModel", "word", "[I", true)
  | 23 => ("EndsWordModel", "number", "[I", true)
  | 24 => ("EndsWordModel", "from", "[I", true)
  | 25 => ("EndsWordModel", "to", "[I", true)
  | 26 => ("EndsWordModel", "sign", "[I", true)
  | 27 => ("EndsWordModel", "waits", "[I", true)
  | 28 => ("EndsWordModel", "signs", "I", false)
  | 29 => ("EndsWordModel", "waiting", "I", false)
  | 30 => ("EndsWordModel", "open", "I", false)
  | 31 => ("EndsWordModel", "letters", "[I", true)
  | 32 => ("EndsWordModel", "pile", "[Z", true)
  | 33 => ("EndsWordModel", "learner", "I", false)
  | 34 => ("EndsWordModel", "learnt", "I", false)
  | 35 => ("EndsWordModel", "won", "[Z", true)
  | 36 => ("EndsWordModel", "loser", "I", false)
  | 37 => ("EndsWordModel", "keptNext", "I", false)
  | 38 => ("EndsWordModel", "keptLast", "I", false)
  | 39 => ("EndsWordModel", "keptLong", "I", false)
  | 40 => ("EndsWordModel", "keptRow", "[I", true)
  | 41 => ("EndsWordModel", "keptLives", "[I", true)
  | 42 => ("EndsWordModel", "endTurn", "I", false)
  | 43 => ("EndsWordModel", "endDoes", "I", false)
  | 44 => ("EndsWordModel", "seen", "I", false)
  | 45 => ("EndsWordModel", "seenWho", "[I", true)
  | 46 => ("EndsWordModel", "seenWord", "[I", true)
  | 47 => ("EndsWordModel", "seenLong", "[I", true)
  | 48 => ("EndsWordModel", "sheets", "I", false)
  | 49 => ("EndsWordModel", "sheet", "[I", true)
  | 50 => ("EndsWordModel", "hasImage", "Z", false)
  | 51 => ("EndsWordModel", "imageThe", "I", false)
  | 52 => ("EndsWordModel", "imageWords", "I", false)
  | 53 => ("EndsWordModel", "imagePlayers", "I", false)
  | 54 => ("EndsWordModel", "imageNext", "I", false)
  | 55 => ("EndsWordModel", "imageLast", "I", false)
  | 56 => ("EndsWordModel", "imageLong", "I", false)
  | 57 => ("EndsWordModel", "imageSeen", "I", false)
  | 58 => ("EndsWordModel", "imageSheets", "I", false)
  | 59 => ("EndsWordModel", "imageLetters", "[I", true)
  | 60 => ("EndsWordModel", "imageSize", "[I", true)
  | 61 => ("EndsWordModel", "imageCommon", "[I", true)
  | 62 => ("EndsWordModel", "imageKind", "[I", true)
  | 63 => ("EndsWordModel", "imageV", "[I", true)
  | 64 => ("EndsWordModel", "imageLives", "[I", true)
  | 65 => ("EndsWordModel", "imageRows", "[I", true)
  | 66 => ("EndsWordModel", "imageRow", "[I", true)
  | 67 => ("EndsWordModel", "imageWho", "[I", true)
  | 68 => ("EndsWordModel", "imageWord", "[I", true)
  | 69 => ("EndsWordModel", "imageMany", "[I", true)
  | 70 => ("EndsWordModel", "imageSheet", "[I", true)
  | 71 => ("EndsWordModel", "ran", "I", false)
  | 72 => ("EndsWordModel", "bodies", "[I", true)
  | 73 => ("EndsWordModel", "sort", "[I", true)
  | 74 => ("EndsWordModel", "length", "[I", true)
  | 75 => ("EndsWordModel", "item", "[J", true)
  | _ => ("EndsWordModel", "aside", "[J", true)
def tyX10 : Nat → FieldType := fun k => match k with
  | 0 => .int
  | 1 => .int
  | 2 => .array .int
  | 3 => .array .int
  | 4 => .array .int
  | 5 => .array .int
  | 6 => .int
  | 7 => .int
  | 8 => .int
  | 9 => .int
  | 10 => .array .int
  | 11 => .array .int
  | 12 => .array .int
  | 13 => .array .int
  | 14 => .array .int
  | 15 => .int
  | 16 => .int
  | 17 => .int
  | 18 => .int
  | 19 => .int
  | 20 => .array .int
  | 21 => .array .int
  | 22 => .array .int
  | 23 => .array .int
  | 24 => .array .int
  | 25 => .array .int
  | 26 => .array .int
  | 27 => .array .int
  | 28 => .int
  | 29 => .int
  | 30 => .int
  | 31 => .array .int
  | 32 => .array .boolean
  | 33 => .int
  | 34 => .int
  | 35 => .array .boolean
  | 36 => .int
  | 37 => .int
  | 38 => .int
  | 39 => .int
  | 40 => .array .int
  | 41 => .array .int
  | 42 => .int
  | 43 => .int
  | 44 => .int
  | 45 => .array .int
  | 46 => .array .int
  | 47 => .array .int
  | 48 => .int
  | 49 => .array .int
  | 50 => .boolean
  | 51 => .int
  | 52 => .int
  | 53 => .int
  | 54 => .int
  | 55 => .int
  | 56 => .int
  | 57 => .int
  | 58 => .int
  | 59 => .array .int
  | 60 => .array .int
  | 61 => .array .int
  | 62 => .array .int
  | 63 => .array .int
  | 64 => .array .int
  | 65 => .array .int
  | 66 => .array .int
  | 67 => .array .int
  | 68 => .array .int
  | 69 => .array .int
  | 70 => .array .int
  | 71 => .int
  | 72 => .array .int
  | 73 => .array .int
  | 74 => .array .int
  | 75 => .array .long
  | _ => .array .long
abbrev wsX100 : List Cond := u_ws RX10 TX10 77
theorem nmX10 : ∀ a, a < 77 → ∀ b, b < 77 → a ≠ b → (TX10 a).2.1 ≠ (TX10 b).2.1 := by decide +kernel
theorem tyX10_ok : ∀ k, k < 77 → parseFieldDescriptor (TX10 k).2.2.1 = some (tyX10 k) := by decide +kernel
abbrev vwCl : List vw_C := [(RX0, TX0, 2), (RX1, TX1, 6), (RX2, TX2, 10), (RX3, TX3, 2), (RX4, TX4, 4), (RX5, TX5, 4), (RX6, TX6, 5), (RX7, TX7, 5), (RX8, TX8, 3), (RX9, TX9, 11), (RX10, TX10, 77)]
noncomputable def cNm (k : Nat) : String := (bif Nat.blt k 11 then (bif Nat.blt k 5 then (bif Nat.blt k 2 then (bif Nat.blt k 1 then (bif Nat.beq k 0 then "EndsWord$Acts" else "") else (bif Nat.beq k 1 then "EndsWord$Book" else "")) else (bif Nat.blt k 3 then (bif Nat.beq k 2 then "EndsWord$Game" else "") else (bif Nat.blt k 4 then (bif Nat.beq k 3 then "EndsWord$Line" else "") else (bif Nat.beq k 4 then "EndsWord$Player" else "")))) else (bif Nat.blt k 8 then (bif Nat.blt k 6 then (bif Nat.beq k 5 then "EndsWord$Reader" else "") else (bif Nat.blt k 7 then (bif Nat.beq k 6 then "EndsWord$Round" else "") else (bif Nat.beq k 7 then "EndsWord$Table" else ""))) else (bif Nat.blt k 9 then (bif Nat.beq k 8 then "EndsWord$Tape" else "") else (bif Nat.blt k 10 then (bif Nat.beq k 9 then "EndsWord" else "") else (bif Nat.beq k 10 then "EndsWordModel" else ""))))) else (bif Nat.blt k 16 then (bif Nat.blt k 13 then (bif Nat.blt k 12 then (bif Nat.beq k 11 then "EndsWordLaw" else "") else (bif Nat.beq k 12 then "java/lang/String" else "")) else (bif Nat.blt k 14 then (bif Nat.beq k 13 then "java/lang/StringLatin1" else "") else (bif Nat.blt k 15 then (bif Nat.beq k 14 then "java/lang/StringUTF16" else "") else (bif Nat.beq k 15 then "jdk/internal/util/Preconditions" else "")))) else (bif Nat.blt k 19 then (bif Nat.blt k 17 then (bif Nat.beq k 16 then "java/lang/Integer" else "") else (bif Nat.blt k 18 then (bif Nat.beq k 17 then "java/util/Arrays" else "") else (bif Nat.beq k 18 then "java/lang/Math" else ""))) else (bif Nat.blt k 20 then (bif Nat.beq k 19 then "java/lang/Character" else "") else (bif Nat.blt k 21 then (bif Nat.beq k 20 then "java/lang/Object" else "") else (bif Nat.beq k 21 then "java/lang/System" else ""))))))
noncomputable def cNn (k : Nat) : Nat := (bif Nat.blt k 5 then (bif Nat.blt k 2 then (bif Nat.blt k 1 then (bif Nat.beq k 0 then 2 else 0) else (bif Nat.beq k 1 then 6 else 0)) else (bif Nat.blt k 3 then (bif Nat.beq k 2 then 10 else 0) else (bif Nat.blt k 4 then (bif Nat.beq k 3 then 2 else 0) else (bif Nat.beq k 4 then 4 else 0)))) else (bif Nat.blt k 8 then (bif Nat.blt k 6 then (bif Nat.beq k 5 then 4 else 0) else (bif Nat.blt k 7 then (bif Nat.beq k 6 then 5 else 0) else (bif Nat.beq k 7 then 5 else 0))) else (bif Nat.blt k 9 then (bif Nat.beq k 8 then 3 else 0) else (bif Nat.blt k 10 then (bif Nat.beq k 9 then 11 else 0) else (bif Nat.beq k 10 then 77 else 0)))))
noncomputable def fT (c : Nat) : u_T := bif Nat.beq c 0 then TX0 else bif Nat.beq c 1 then TX1 else bif Nat.beq c 2 then TX2 else bif Nat.beq c 3 then TX3 else bif Nat.beq c 4 then TX4 else bif Nat.beq c 5 then TX5 else bif Nat.beq c 6 then TX6 else bif Nat.beq c 7 then TX7 else bif Nat.beq c 8 then TX8 else bif Nat.beq c 9 then TX9 else TX10
noncomputable def fy (c : Nat) : Nat → FieldType := bif Nat.beq c 0 then tyX0 else bif Nat.beq c 1 then tyX1 else bif Nat.beq c 2 then tyX2 else bif Nat.beq c 3 then tyX3 else bif Nat.beq c 4 then tyX4 else bif Nat.beq c 5 then tyX5 else bif Nat.beq c 6 then tyX6 else bif Nat.beq c 7 then tyX7 else bif Nat.beq c 8 then tyX8 else bif Nat.beq c 9 then tyX9 else tyX10
def tcd (t : FieldType) : Nat := match t with | .int => 0 | .boolean => 1 | _ => 2
noncomputable def SH (k : Nat) : Nat × Nat := (bif Nat.blt k 105 then (bif Nat.blt k 52 then (bif Nat.blt k 26 then (bif Nat.blt k 13 then (bif Nat.blt k 6 then (bif Nat.blt k 3 then (bif Nat.blt k 1 then (bif Nat.beq k 0 then (9, 11) else (99, 0)) else (bif Nat.blt k 2 then (bif Nat.beq k 1 then (3, 2) else (99, 0)) else (bif Nat.beq k 2 then (11, 6) else (99, 0)))) else (bif Nat.blt k 4 then (bif Nat.beq k 3 then (3, 2) else (99, 0)) else (bif Nat.blt k 5 then (bif Nat.beq k 4 then (11, 100) else (99, 0)) else (bif Nat.beq k 5 then (5, 4) else (99, 0))))) else (bif Nat.blt k 9 then (bif Nat.blt k 7 then (bif Nat.beq k 6 then (3, 2) else (99, 0)) else (bif Nat.blt k 8 then (bif Nat.beq k 7 then (11, 0) else (99, 0)) else (bif Nat.beq k 8 then (7, 5) else (99, 0)))) else (bif Nat.blt k 11 then (bif Nat.blt k 10 then (bif Nat.beq k 9 then (11, 100) else (99, 0)) else (bif Nat.beq k 10 then (11, 20) else (99, 0))) else (bif Nat.blt k 12 then (bif Nat.beq k 11 then (16, 6) else (99, 0)) else (bif Nat.beq k 12 then (2, 10) else (99, 0)))))) else (bif Nat.blt k 19 then (bif Nat.blt k 16 then (bif Nat.blt k 14 then (bif Nat.beq k 13 then (1, 6) else (99, 0)) else (bif Nat.blt k 15 then (bif Nat.beq k 14 then (14, 12) else (99, 0)) else (bif Nat.beq k 15 then (11, 12) else (99, 0)))) else (bif Nat.blt k 17 then (bif Nat.beq k 16 then (11, 24) else (99, 0)) else (bif Nat.blt k 18 then (bif Nat.beq k 17 then (11, 7) else (99, 0)) else (bif Nat.beq k 18 then (11, 7) else (99, 0))))) else (bif Nat.blt k 22 then (bif Nat.blt k 20 then (bif Nat.beq k 19 then (3, 2) else (99, 0)) else (bif Nat.blt k 21 then (bif Nat.beq k 20 then (11, 6) else (99, 0)) else (bif Nat.beq k 21 then (3, 2) else (99, 0)))) else (bif Nat.blt k 24 then (bif Nat.blt k 23 then (bif Nat.beq k 22 then (11, 6) else (99, 0)) else (bif Nat.beq k 23 then (3, 2) else (99, 0))) else (bif Nat.blt k 25 then (bif Nat.beq k 24 then (11, 6) else (99, 0)) else (bif Nat.beq k 25 then (3, 2) else (99, 0))))))) else (bif Nat.blt k 39 then (bif Nat.blt k 32 then (bif Nat.blt k 29 then (bif Nat.blt k 27 then (bif Nat.beq k 26 then (11, 6) else (99, 0)) else (bif Nat.blt k 28 then (bif Nat.beq k 27 then (3, 2) else (99, 0)) else (bif Nat.beq k 28 then (11, 6) else (99, 0)))) else (bif Nat.blt k 30 then (bif Nat.beq k 29 then (3, 2) else (99, 0)) else (bif Nat.blt k 31 then (bif Nat.beq k 30 then (11, 6) else (99, 0)) else (bif Nat.beq k 31 then (3, 2) else (99, 0))))) else (bif Nat.blt k 35 then (bif Nat.blt k 33 then (bif Nat.beq k 32 then (11, 6) else (99, 0)) else (bif Nat.blt k 34 then (bif Nat.beq k 33 then (3, 2) else (99, 0)) else (bif Nat.beq k 34 then (11, 6) else (99, 0)))) else (bif Nat.blt k 37 then (bif Nat.blt k 36 then (bif Nat.beq k 35 then (3, 2) else (99, 0)) else (bif Nat.beq k 36 then (11, 6) else (99, 0))) else (bif Nat.blt k 38 then (bif Nat.beq k 37 then (3, 2) else (99, 0)) else (bif Nat.beq k 38 then (11, 6) else (99, 0)))))) else (bif Nat.blt k 45 then (bif Nat.blt k 42 then (bif Nat.blt k 40 then (bif Nat.beq k 39 then (3, 2) else (99, 0)) else (bif Nat.blt k 41 then (bif Nat.beq k 40 then (11, 6) else (99, 0)) else (bif Nat.beq k 41 then (3, 2) else (99, 0)))) else (bif Nat.blt k 43 then (bif Nat.beq k 42 then (11, 6) else (99, 0)) else (bif Nat.blt k 44 then (bif Nat.beq k 43 then (15, 5) else (99, 0)) else (bif Nat.beq k 44 then (6, 5) else (99, 0))))) else (bif Nat.blt k 48 then (bif Nat.blt k 46 then (bif Nat.beq k 45 then (3, 2) else (99, 0)) else (bif Nat.blt k 47 then (bif Nat.beq k 46 then (11, 12) else (99, 0)) else (bif Nat.beq k 47 then (11, 5) else (99, 0)))) else (bif Nat.blt k 50 then (bif Nat.blt k 49 then (bif Nat.beq k 48 then (3, 2) else (99, 0)) else (bif Nat.beq k 49 then (11, 6) else (99, 0))) else (bif Nat.blt k 51 then (bif Nat.beq k 50 then (3, 2) else (99, 0)) else (bif Nat.beq k 51 then (11, 6) else (99, 0)))))))) else (bif Nat.blt k 78 then (bif Nat.blt k 65 then (bif Nat.blt k 58 then (bif Nat.blt k 55 then (bif Nat.blt k 53 then (bif Nat.beq k 52 then (3, 2) else (99, 0)) else (bif Nat.blt k 54 then (bif Nat.beq k 53 then (11, 6) else (99, 0)) else (bif Nat.beq k 54 then (3, 2) else (99, 0)))) else (bif Nat.blt k 56 then (bif Nat.beq k 55 then (11, 8) else (99, 0)) else (bif Nat.blt k 57 then (bif Nat.beq k 56 then (7, 5) else (99, 0)) else (bif Nat.beq k 57 then (11, 100) else (99, 0))))) else (bif Nat.blt k 61 then (bif Nat.blt k 59 then (bif Nat.beq k 58 then (11, 20) else (99, 0)) else (bif Nat.blt k 60 then (bif Nat.beq k 59 then (11, 5) else (99, 0)) else (bif Nat.beq k 60 then (4, 4) else (99, 0)))) else (bif Nat.blt k 63 then (bif Nat.blt k 62 then (bif Nat.beq k 61 then (11, 4) else (99, 0)) else (bif Nat.beq k 62 then (4, 4) else (99, 0))) else (bif Nat.blt k 64 then (bif Nat.beq k 63 then (11, 4) else (99, 0)) else (bif Nat.beq k 64 then (4, 4) else (99, 0)))))) else (bif Nat.blt k 71 then (bif Nat.blt k 68 then (bif Nat.blt k 66 then (bif Nat.beq k 65 then (11, 4) else (99, 0)) else (bif Nat.blt k 67 then (bif Nat.beq k 66 then (4, 4) else (99, 0)) else (bif Nat.beq k 67 then (11, 4) else (99, 0)))) else (bif Nat.blt k 69 then (bif Nat.beq k 68 then (4, 4) else (99, 0)) else (bif Nat.blt k 70 then (bif Nat.beq k 69 then (11, 4) else (99, 0)) else (bif Nat.beq k 70 then (2, 10) else (99, 0))))) else (bif Nat.blt k 74 then (bif Nat.blt k 72 then (bif Nat.beq k 71 then (1, 6) else (99, 0)) else (bif Nat.blt k 73 then (bif Nat.beq k 72 then (14, 12) else (99, 0)) else (bif Nat.beq k 73 then (11, 12) else (99, 0)))) else (bif Nat.blt k 76 then (bif Nat.blt k 75 then (bif Nat.beq k 74 then (11, 24) else (99, 0)) else (bif Nat.beq k 75 then (11, 7) else (99, 0))) else (bif Nat.blt k 77 then (bif Nat.beq k 76 then (11, 7) else (99, 0)) else (bif Nat.beq k 77 then (3, 2) else (99, 0))))))) else (bif Nat.blt k 91 then (bif Nat.blt k 84 then (bif Nat.blt k 81 then (bif Nat.blt k 79 then (bif Nat.beq k 78 then (11, 6) else (99, 0)) else (bif Nat.blt k 80 then (bif Nat.beq k 79 then (3, 2) else (99, 0)) else (bif Nat.beq k 80 then (11, 6) else (99, 0)))) else (bif Nat.blt k 82 then (bif Nat.beq k 81 then (3, 2) else (99, 0)) else (bif Nat.blt k 83 then (bif Nat.beq k 82 then (11, 6) else (99, 0)) else (bif Nat.beq k 83 then (3, 2) else (99, 0))))) else (bif Nat.blt k 87 then (bif Nat.blt k 85 then (bif Nat.beq k 84 then (11, 6) else (99, 0)) else (bif Nat.blt k 86 then (bif Nat.beq k 85 then (3, 2) else (99, 0)) else (bif Nat.beq k 86 then (11, 6) else (99, 0)))) else (bif Nat.blt k 89 then (bif Nat.blt k 88 then (bif Nat.beq k 87 then (3, 2) else (99, 0)) else (bif Nat.beq k 88 then (11, 6) else (99, 0))) else (bif Nat.blt k 90 then (bif Nat.beq k 89 then (3, 2) else (99, 0)) else (bif Nat.beq k 90 then (11, 6) else (99, 0)))))) else (bif Nat.blt k 98 then (bif Nat.blt k 94 then (bif Nat.blt k 92 then (bif Nat.beq k 91 then (3, 2) else (99, 0)) else (bif Nat.blt k 93 then (bif Nat.beq k 92 then (11, 6) else (99, 0)) else (bif Nat.beq k 93 then (3, 2) else (99, 0)))) else (bif Nat.blt k 96 then (bif Nat.blt k 95 then (bif Nat.beq k 94 then (11, 6) else (99, 0)) else (bif Nat.beq k 95 then (3, 2) else (99, 0))) else (bif Nat.blt k 97 then (bif Nat.beq k 96 then (11, 6) else (99, 0)) else (bif Nat.beq k 97 then (3, 2) else (99, 0))))) else (bif Nat.blt k 101 then (bif Nat.blt k 99 then (bif Nat.beq k 98 then (11, 6) else (99, 0)) else (bif Nat.blt k 100 then (bif Nat.beq k 99 then (3, 2) else (99, 0)) else (bif Nat.beq k 100 then (11, 6) else (99, 0)))) else (bif Nat.blt k 103 then (bif Nat.blt k 102 then (bif Nat.beq k 101 then (15, 5) else (99, 0)) else (bif Nat.beq k 102 then (6, 5) else (99, 0))) else (bif Nat.blt k 104 then (bif Nat.beq k 103 then (3, 2) else (99, 0)) else (bif Nat.beq k 104 then (11, 12) else (99, 0))))))))) else (bif Nat.blt k 157 then (bif Nat.blt k 131 then (bif Nat.blt k 118 then (bif Nat.blt k 111 then (bif Nat.blt k 108 then (bif Nat.blt k 106 then (bif Nat.beq k 105 then (11, 5) else (99, 0)) else (bif Nat.blt k 107 then (bif Nat.beq k 106 then (3, 2) else (99, 0)) else (bif Nat.beq k 107 then (11, 6) else (99, 0)))) else (bif Nat.blt k 109 then (bif Nat.beq k 108 then (3, 2) else (99, 0)) else (bif Nat.blt k 110 then (bif Nat.beq k 109 then (11, 6) else (99, 0)) else (bif Nat.beq k 110 then (3, 2) else (99, 0))))) else (bif Nat.blt k 114 then (bif Nat.blt k 112 then (bif Nat.beq k 111 then (11, 6) else (99, 0)) else (bif Nat.blt k 113 then (bif Nat.beq k 112 then (3, 2) else (99, 0)) else (bif Nat.beq k 113 then (11, 8) else (99, 0)))) else (bif Nat.blt k 116 then (bif Nat.blt k 115 then (bif Nat.beq k 114 then (7, 5) else (99, 0)) else (bif Nat.beq k 115 then (11, 100) else (99, 0))) else (bif Nat.blt k 117 then (bif Nat.beq k 116 then (11, 20) else (99, 0)) else (bif Nat.beq k 117 then (11, 5) else (99, 0)))))) else (bif Nat.blt k 124 then (bif Nat.blt k 121 then (bif Nat.blt k 119 then (bif Nat.beq k 118 then (4, 4) else (99, 0)) else (bif Nat.blt k 120 then (bif Nat.beq k 119 then (11, 4) else (99, 0)) else (bif Nat.beq k 120 then (4, 4) else (99, 0)))) else (bif Nat.blt k 122 then (bif Nat.beq k 121 then (11, 4) else (99, 0)) else (bif Nat.blt k 123 then (bif Nat.beq k 122 then (4, 4) else (99, 0)) else (bif Nat.beq k 123 then (11, 4) else (99, 0))))) else (bif Nat.blt k 127 then (bif Nat.blt k 125 then (bif Nat.beq k 124 then (4, 4) else (99, 0)) else (bif Nat.blt k 126 then (bif Nat.beq k 125 then (11, 4) else (99, 0)) else (bif Nat.beq k 126 then (4, 4) else (99, 0)))) else (bif Nat.blt k 129 then (bif Nat.blt k 128 then (bif Nat.beq k 127 then (11, 4) else (99, 0)) else (bif Nat.beq k 128 then (6, 5) else (99, 0))) else (bif Nat.blt k 130 then (bif Nat.beq k 129 then (3, 2) else (99, 0)) else (bif Nat.beq k 130 then (11, 12) else (99, 0))))))) else (bif Nat.blt k 144 then (bif Nat.blt k 137 then (bif Nat.blt k 134 then (bif Nat.blt k 132 then (bif Nat.beq k 131 then (11, 5) else (99, 0)) else (bif Nat.blt k 133 then (bif Nat.beq k 132 then (0, 2) else (99, 0)) else (bif Nat.beq k 133 then (3, 2) else (99, 0)))) else (bif Nat.blt k 135 then (bif Nat.beq k 134 then (11, 20) else (99, 0)) else (bif Nat.blt k 136 then (bif Nat.beq k 135 then (17, 6) else (99, 0)) else (bif Nat.beq k 136 then (7, 5) else (99, 0))))) else (bif Nat.blt k 140 then (bif Nat.blt k 138 then (bif Nat.beq k 137 then (11, 100) else (99, 0)) else (bif Nat.blt k 139 then (bif Nat.beq k 138 then (11, 20) else (99, 0)) else (bif Nat.beq k 139 then (7, 5) else (99, 0)))) else (bif Nat.blt k 142 then (bif Nat.blt k 141 then (bif Nat.beq k 140 then (11, 100) else (99, 0)) else (bif Nat.beq k 141 then (11, 20) else (99, 0))) else (bif Nat.blt k 143 then (bif Nat.beq k 142 then (7, 5) else (99, 0)) else (bif Nat.beq k 143 then (11, 100) else (99, 0)))))) else (bif Nat.blt k 150 then (bif Nat.blt k 147 then (bif Nat.blt k 145 then (bif Nat.beq k 144 then (11, 20) else (99, 0)) else (bif Nat.blt k 146 then (bif Nat.beq k 145 then (7, 5) else (99, 0)) else (bif Nat.beq k 146 then (11, 100) else (99, 0)))) else (bif Nat.blt k 148 then (bif Nat.beq k 147 then (11, 20) else (99, 0)) else (bif Nat.blt k 149 then (bif Nat.beq k 148 then (7, 5) else (99, 0)) else (bif Nat.beq k 149 then (11, 100) else (99, 0))))) else (bif Nat.blt k 153 then (bif Nat.blt k 151 then (bif Nat.beq k 150 then (11, 20) else (99, 0)) else (bif Nat.blt k 152 then (bif Nat.beq k 151 then (7, 5) else (99, 0)) else (bif Nat.beq k 152 then (11, 100) else (99, 0)))) else (bif Nat.blt k 155 then (bif Nat.blt k 154 then (bif Nat.beq k 153 then (11, 20) else (99, 0)) else (bif Nat.beq k 154 then (8, 3) else (99, 0))) else (bif Nat.blt k 156 then (bif Nat.beq k 155 then (12, 60) else (99, 0)) else (bif Nat.beq k 156 then (8, 3) else (99, 0)))))))) else (bif Nat.blt k 183 then (bif Nat.blt k 170 then (bif Nat.blt k 163 then (bif Nat.blt k 160 then (bif Nat.blt k 158 then (bif Nat.beq k 157 then (12, 60) else (99, 0)) else (bif Nat.blt k 159 then (bif Nat.beq k 158 then (8, 3) else (99, 0)) else (bif Nat.beq k 159 then (12, 60) else (99, 0)))) else (bif Nat.blt k 161 then (bif Nat.beq k 160 then (8, 3) else (99, 0)) else (bif Nat.blt k 162 then (bif Nat.beq k 161 then (12, 60) else (99, 0)) else (bif Nat.beq k 162 then (8, 3) else (99, 0))))) else (bif Nat.blt k 166 then (bif Nat.blt k 164 then (bif Nat.beq k 163 then (12, 60) else (99, 0)) else (bif Nat.blt k 165 then (bif Nat.beq k 164 then (8, 3) else (99, 0)) else (bif Nat.beq k 165 then (12, 60) else (99, 0)))) else (bif Nat.blt k 168 then (bif Nat.blt k 167 then (bif Nat.beq k 166 then (10, 77) else (99, 0)) else (bif Nat.beq k 167 then (11, 72) else (99, 0))) else (bif Nat.blt k 169 then (bif Nat.beq k 168 then (11, 12) else (99, 0)) else (bif Nat.beq k 169 then (11, 12) else (99, 0)))))) else (bif Nat.blt k 176 then (bif Nat.blt k 173 then (bif Nat.blt k 171 then (bif Nat.beq k 170 then (11, 6) else (99, 0)) else (bif Nat.blt k 172 then (bif Nat.beq k 171 then (11, 5) else (99, 0)) else (bif Nat.beq k 172 then (11, 5) else (99, 0)))) else (bif Nat.blt k 174 then (bif Nat.beq k 173 then (11, 5) else (99, 0)) else (bif Nat.blt k 175 then (bif Nat.beq k 174 then (11, 20) else (99, 0)) else (bif Nat.beq k 175 then (11, 12) else (99, 0))))) else (bif Nat.blt k 179 then (bif Nat.blt k 177 then (bif Nat.beq k 176 then (11, 100) else (99, 0)) else (bif Nat.blt k 178 then (bif Nat.beq k 177 then (11, 6) else (99, 0)) else (bif Nat.beq k 178 then (11, 60) else (99, 0)))) else (bif Nat.blt k 181 then (bif Nat.blt k 180 then (bif Nat.beq k 179 then (11, 60) else (99, 0)) else (bif Nat.beq k 180 then (11, 60) else (99, 0))) else (bif Nat.blt k 182 then (bif Nat.beq k 181 then (11, 60) else (99, 0)) else (bif Nat.beq k 182 then (11, 600) else (99, 0))))))) else (bif Nat.blt k 196 then (bif Nat.blt k 189 then (bif Nat.blt k 186 then (bif Nat.blt k 184 then (bif Nat.beq k 183 then (11, 101) else (99, 0)) else (bif Nat.blt k 185 then (bif Nat.beq k 184 then (11, 14) else (99, 0)) else (bif Nat.beq k 185 then (13, 100) else (99, 0)))) else (bif Nat.blt k 187 then (bif Nat.beq k 186 then (13, 84) else (99, 0)) else (bif Nat.blt k 188 then (bif Nat.beq k 187 then (11, 12) else (99, 0)) else (bif Nat.beq k 188 then (11, 5) else (99, 0))))) else (bif Nat.blt k 192 then (bif Nat.blt k 190 then (bif Nat.beq k 189 then (11, 6) else (99, 0)) else (bif Nat.blt k 191 then (bif Nat.beq k 190 then (11, 6) else (99, 0)) else (bif Nat.beq k 191 then (11, 6) else (99, 0)))) else (bif Nat.blt k 194 then (bif Nat.blt k 193 then (bif Nat.beq k 192 then (11, 8) else (99, 0)) else (bif Nat.beq k 193 then (11, 72) else (99, 0))) else (bif Nat.blt k 195 then (bif Nat.beq k 194 then (11, 12) else (99, 0)) else (bif Nat.beq k 195 then (11, 12) else (99, 0)))))) else (bif Nat.blt k 203 then (bif Nat.blt k 199 then (bif Nat.blt k 197 then (bif Nat.beq k 196 then (11, 5) else (99, 0)) else (bif Nat.blt k 198 then (bif Nat.beq k 197 then (11, 5) else (99, 0)) else (bif Nat.beq k 198 then (11, 5) else (99, 0)))) else (bif Nat.blt k 201 then (bif Nat.blt k 200 then (bif Nat.beq k 199 then (11, 20) else (99, 0)) else (bif Nat.beq k 200 then (11, 12) else (99, 0))) else (bif Nat.blt k 202 then (bif Nat.beq k 201 then (11, 6) else (99, 0)) else (bif Nat.beq k 202 then (11, 6) else (99, 0))))) else (bif Nat.blt k 206 then (bif Nat.blt k 204 then (bif Nat.beq k 203 then (11, 6) else (99, 0)) else (bif Nat.blt k 205 then (bif Nat.beq k 204 then (11, 8) else (99, 0)) else (bif Nat.beq k 205 then (11, 20) else (99, 0)))) else (bif Nat.blt k 208 then (bif Nat.blt k 207 then (bif Nat.beq k 206 then (11, 6) else (99, 0)) else (bif Nat.beq k 207 then (11, 6) else (99, 0))) else (bif Nat.blt k 209 then (bif Nat.beq k 208 then (12, 360) else (99, 0)) else (bif Nat.beq k 209 then (12, 60) else (99, 0))))))))))
noncomputable def oNm (k : Nat) : String := (bif Nat.blt k 16 then (bif Nat.blt k 15 then (bif Nat.beq k 14 then "EndsWord$Line" else "") else (bif Nat.beq k 15 then "EndsWord$Player" else "")) else (bif Nat.blt k 17 then (bif Nat.beq k 16 then "EndsWord$Table" else "") else (bif Nat.beq k 17 then "EndsWord$Tape" else "")))
noncomputable def sTx (k : Nat) : String := (bif Nat.blt k 6 then (bif Nat.blt k 4 then (bif Nat.beq k 3 then "know " else "") else (bif Nat.blt k 5 then (bif Nat.beq k 4 then "pkvclf" else "") else (bif Nat.beq k 5 then "<=>" else ""))) else (bif Nat.blt k 7 then (bif Nat.beq k 6 then "0123456789" else "") else (bif Nat.blt k 8 then (bif Nat.beq k 7 then "east " else "") else (bif Nat.beq k 8 then "ives " else ""))))
def xStrOwn : String := "EndsWord$Reader"
noncomputable def sIx (k : Nat) : Nat := (bif Nat.blt k 6 then (bif Nat.blt k 4 then (bif Nat.beq k 3 then 53 else 0) else (bif Nat.blt k 5 then (bif Nat.beq k 4 then 82 else 0) else (bif Nat.beq k 5 then 88 else 0))) else (bif Nat.blt k 7 then (bif Nat.beq k 6 then 94 else 0) else (bif Nat.blt k 8 then (bif Nat.beq k 7 then 65 else 0) else (bif Nat.beq k 8 then 74 else 0))))
noncomputable def sLn (k : Nat) : Nat := (bif Nat.blt k 6 then (bif Nat.blt k 4 then (bif Nat.beq k 3 then 5 else 0) else (bif Nat.blt k 5 then (bif Nat.beq k 4 then 6 else 0) else (bif Nat.beq k 5 then 3 else 0))) else (bif Nat.blt k 7 then (bif Nat.beq k 6 then 10 else 0) else (bif Nat.blt k 8 then (bif Nat.beq k 7 then 5 else 0) else (bif Nat.beq k 8 then 5 else 0))))
noncomputable def sBy (k : Nat) : List Int32 := (bif Nat.blt k 6 then (bif Nat.blt k 4 then (bif Nat.beq k 3 then [107, 110, 111, 119, 32] else []) else (bif Nat.blt k 5 then (bif Nat.beq k 4 then [112, 107, 118, 99, 108, 102] else []) else (bif Nat.beq k 5 then [60, 61, 62] else []))) else (bif Nat.blt k 7 then (bif Nat.beq k 6 then [48, 49, 50, 51, 52, 53, 54, 55, 56, 57] else []) else (bif Nat.blt k 8 then (bif Nat.beq k 7 then [101, 97, 115, 116, 32] else []) else (bif Nat.beq k 8 then [105, 118, 101, 115, 32] else []))))
