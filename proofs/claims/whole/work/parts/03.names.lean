/-! ===== BEGIN printed: names, fields, word lists, decode rows ===== -/
def RX0 : String := "FollowedLaws$Alike"
def TX0 : u_T := fun k => match k with
  | _ => ("", "", "", false)
def tyX0 : Nat → FieldType := fun k => match k with
  | _ => .int
abbrev wsX00 : List Cond := u_ws RX0 TX0 0
theorem nmX0 : ∀ a, a < 0 → ∀ b, b < 0 → a ≠ b → (TX0 a).2.1 ≠ (TX0 b).2.1 := by decide +kernel
theorem tyX0_ok : ∀ k, k < 0 → parseFieldDescriptor (TX0 k).2.2.1 = some (tyX0 k) := by decide +kernel
abbrev cX0_withFact : ByteArray := prog_2_method_2_code
def yX0_withFact : MethodName := ⟨RX0, "withFact", "(JIII)J"⟩
abbrev cX0_result : ByteArray := prog_2_method_3_code
def yX0_result : MethodName := ⟨RX0, "result", "(JI)I"⟩
abbrev cX0_ownTerm : ByteArray := prog_2_method_4_code
def yX0_ownTerm : MethodName := ⟨RX0, "ownTerm", "(II)I"⟩
abbrev cX0_become : ByteArray := prog_2_method_5_code
def yX0_become : MethodName := ⟨RX0, "become", "(JI)I"⟩
abbrev cX0_joined : ByteArray := prog_2_method_6_code
def yX0_joined : MethodName := ⟨RX0, "joined", "(JII)J"⟩
def RX1 : String := "FollowedLaws$Atom"
def TX1 : u_T := fun k => match k with
  | _ => ("", "", "", false)
def tyX1 : Nat → FieldType := fun k => match k with
  | _ => .int
abbrev wsX10 : List Cond := u_ws RX1 TX1 0
theorem nmX1 : ∀ a, a < 0 → ∀ b, b < 0 → a ≠ b → (TX1 a).2.1 ≠ (TX1 b).2.1 := by decide +kernel
theorem tyX1_ok : ∀ k, k < 0 → parseFieldDescriptor (TX1 k).2.2.1 = some (tyX1 k) := by decide +kernel
abbrev cX1_isAtom : ByteArray := prog_3_method_2_code
def yX1_isAtom : MethodName := ⟨RX1, "isAtom", "(I)Z"⟩
abbrev cX1_isFact : ByteArray := prog_3_method_3_code
def yX1_isFact : MethodName := ⟨RX1, "isFact", "(III)Z"⟩
abbrev cX1_of : ByteArray := prog_3_method_4_code
def yX1_of : MethodName := ⟨RX1, "of", "(III)I"⟩
abbrev cX1_predicate : ByteArray := prog_3_method_5_code
def yX1_predicate : MethodName := ⟨RX1, "predicate", "(I)I"⟩
abbrev cX1_pair : ByteArray := prog_3_method_6_code
def yX1_pair : MethodName := ⟨RX1, "pair", "(I)I"⟩
abbrev cX1_first : ByteArray := prog_3_method_7_code
def yX1_first : MethodName := ⟨RX1, "first", "(I)I"⟩
abbrev cX1_second : ByteArray := prog_3_method_8_code
def yX1_second : MethodName := ⟨RX1, "second", "(I)I"⟩
abbrev cX1_strongerPairs : ByteArray := prog_3_method_9_code
def yX1_strongerPairs : MethodName := ⟨RX1, "strongerPairs", "(I)J"⟩
abbrev cX1_instanceMask : ByteArray := prog_3_method_10_code
def yX1_instanceMask : MethodName := ⟨RX1, "instanceMask", "(I)I"⟩
def RX2 : String := "FollowedLaws$Facts"
def TX2 : u_T := fun k => match k with
  | _ => ("FollowedLaws$Facts", "masks", "[J", true)
def tyX2 : Nat → FieldType := fun k => match k with
  | _ => .array .long
abbrev wsX20 : List Cond := u_ws RX2 TX2 1
theorem nmX2 : ∀ a, a < 1 → ∀ b, b < 1 → a ≠ b → (TX2 a).2.1 ≠ (TX2 b).2.1 := by decide +kernel
theorem tyX2_ok : ∀ k, k < 1 → parseFieldDescriptor (TX2 k).2.2.1 = some (tyX2 k) := by decide +kernel
abbrev cX2_init : ByteArray := prog_4_method_1_code
def yX2_init : MethodName := ⟨RX2, "<init>", "()V"⟩
abbrev cX2_has : ByteArray := prog_4_method_2_code
def yX2_has : MethodName := ⟨RX2, "has", "(I)Z"⟩
abbrev cX2_put : ByteArray := prog_4_method_3_code
def yX2_put : MethodName := ⟨RX2, "put", "(I)V"⟩
abbrev cX2_take : ByteArray := prog_4_method_4_code
def yX2_take : MethodName := ⟨RX2, "take", "(I)V"⟩
abbrev cX2_empty : ByteArray := prog_4_method_5_code
def yX2_empty : MethodName := ⟨RX2, "empty", "()V"⟩
abbrev cX2_copyOf : ByteArray := prog_4_method_6_code
def yX2_copyOf : MethodName := ⟨RX2, "copyOf", "(LFollowedLaws$Facts;)V"⟩
abbrev cX2_putAll : ByteArray := prog_4_method_7_code
def yX2_putAll : MethodName := ⟨RX2, "putAll", "(LFollowedLaws$Facts;)V"⟩
abbrev cX2_size : ByteArray := prog_4_method_8_code
def yX2_size : MethodName := ⟨RX2, "size", "()I"⟩
abbrev cX2_at : ByteArray := prog_4_method_9_code
def yX2_at : MethodName := ⟨RX2, "at", "(I)I"⟩
abbrev cX2_hasPair : ByteArray := prog_4_method_10_code
def yX2_hasPair : MethodName := ⟨RX2, "hasPair", "(II)Z"⟩
abbrev cX2_dropWeaker : ByteArray := prog_4_method_11_code
def yX2_dropWeaker : MethodName := ⟨RX2, "dropWeaker", "()I"⟩
abbrev cX2_allFrom : ByteArray := prog_4_method_12_code
def yX2_allFrom : MethodName := ⟨RX2, "allFrom", "(LFollowedLaws$Facts;)V"⟩
abbrev cX2_weakerPairs : ByteArray := prog_4_method_13_code
def yX2_weakerPairs : MethodName := ⟨RX2, "weakerPairs", "(J)J"⟩
abbrev cX2_instancesWith : ByteArray := prog_4_method_14_code
def yX2_instancesWith : MethodName := ⟨RX2, "instancesWith", "(I)I"⟩
abbrev cX2_instanceCount : ByteArray := prog_4_method_15_code
def yX2_instanceCount : MethodName := ⟨RX2, "instanceCount", "()I"⟩
def RX3 : String := "FollowedLaws$LawReader"
def TX3 : u_T := fun k => match k with
  | 0 => ("FollowedLaws$LawReader", "atoms", "[I", true)
  | 1 => ("FollowedLaws$LawReader", "atom", "I", false)
  | _ => ("FollowedLaws$LawReader", "next", "I", false)
def tyX3 : Nat → FieldType := fun k => match k with
  | 0 => .array .int
  | 1 => .int
  | _ => .int
abbrev wsX30 : List Cond := u_ws RX3 TX3 3
theorem nmX3 : ∀ a, a < 3 → ∀ b, b < 3 → a ≠ b → (TX3 a).2.1 ≠ (TX3 b).2.1 := by decide +kernel
theorem tyX3_ok : ∀ k, k < 3 → parseFieldDescriptor (TX3 k).2.2.1 = some (tyX3 k) := by decide +kernel
abbrev cX3_init : ByteArray := prog_5_method_1_code
def yX3_init : MethodName := ⟨RX3, "<init>", "()V"⟩
abbrev cX3_errorIn : ByteArray := prog_5_method_2_code
def yX3_errorIn : MethodName := ⟨RX3, "errorIn", "(LFollowedLaws$Text;)I"⟩
abbrev cX3_standsBehindLaw : ByteArray := prog_5_method_3_code
def yX3_standsBehindLaw : MethodName := ⟨RX3, "standsBehindLaw", "()Z"⟩
abbrev cX3_putLaws : ByteArray := prog_5_method_4_code
def yX3_putLaws : MethodName := ⟨RX3, "putLaws", "(LFollowedLaws$Text;LFollowedLaws$Laws;)I"⟩
abbrev cX3_begin : ByteArray := prog_5_method_5_code
def yX3_begin : MethodName := ⟨RX3, "begin", "()V"⟩
abbrev cX3_putLaw : ByteArray := prog_5_method_6_code
def yX3_putLaw : MethodName := ⟨RX3, "putLaw", "(LFollowedLaws$Laws;)Z"⟩
abbrev cX3_takes : ByteArray := prog_5_method_7_code
def yX3_takes : MethodName := ⟨RX3, "takes", "(I)Z"⟩
abbrev cX3_takesMark : ByteArray := prog_5_method_8_code
def yX3_takesMark : MethodName := ⟨RX3, "takesMark", "(I)Z"⟩
abbrev cX3_letterOf : ByteArray := prog_5_method_9_code
def yX3_letterOf : MethodName := ⟨RX3, "letterOf", "(I)I"⟩
abbrev cX3_termOf : ByteArray := prog_5_method_10_code
def yX3_termOf : MethodName := ⟨RX3, "termOf", "(I)I"⟩
def RX4 : String := "FollowedLaws$Laws"
def TX4 : u_T := fun k => match k with
  | 0 => ("FollowedLaws$Laws", "told", "LFollowedLaws$Facts;", true)
  | 1 => ("FollowedLaws$Laws", "rows", "[I", true)
  | _ => ("FollowedLaws$Laws", "rules", "I", false)
def tyX4 : Nat → FieldType := fun k => match k with
  | 0 => .object "FollowedLaws$Facts"
  | 1 => .array .int
  | _ => .int
abbrev wsX40 : List Cond := u_ws RX4 TX4 3
theorem nmX4 : ∀ a, a < 3 → ∀ b, b < 3 → a ≠ b → (TX4 a).2.1 ≠ (TX4 b).2.1 := by decide +kernel
theorem tyX4_ok : ∀ k, k < 3 → parseFieldDescriptor (TX4 k).2.2.1 = some (tyX4 k) := by decide +kernel
abbrev cX4_init : ByteArray := prog_6_method_1_code
def yX4_init : MethodName := ⟨RX4, "<init>", "()V"⟩
abbrev cX4_ruleCount : ByteArray := prog_6_method_2_code
def yX4_ruleCount : MethodName := ⟨RX4, "ruleCount", "()I"⟩
abbrev cX4_hasRule : ByteArray := prog_6_method_3_code
def yX4_hasRule : MethodName := ⟨RX4, "hasRule", "(I)Z"⟩
abbrev cX4_atomAt : ByteArray := prog_6_method_4_code
def yX4_atomAt : MethodName := ⟨RX4, "atomAt", "(II)I"⟩
abbrev cX4_addRule : ByteArray := prog_6_method_5_code
def yX4_addRule : MethodName := ⟨RX4, "addRule", "(III)Z"⟩
abbrev cX4_dropRule : ByteArray := prog_6_method_6_code
def yX4_dropRule : MethodName := ⟨RX4, "dropRule", "(I)V"⟩
abbrev cX4_copyOf : ByteArray := prog_6_method_7_code
def yX4_copyOf : MethodName := ⟨RX4, "copyOf", "(LFollowedLaws$Laws;)V"⟩
def RX5 : String := "FollowedLaws$Rounds"
def TX5 : u_T := fun k => match k with
  | 0 => ("FollowedLaws$Rounds", "held", "LFollowedLaws$Facts;", true)
  | 1 => ("FollowedLaws$Rounds", "following", "LFollowedLaws$Facts;", true)
  | 2 => ("FollowedLaws$Rounds", "rounds", "I", false)
  | 3 => ("FollowedLaws$Rounds", "matches", "I", false)
  | 4 => ("FollowedLaws$Rounds", "dropped", "I", false)
  | 5 => ("FollowedLaws$Rounds", "fresh", "LFollowedLaws$Facts;", true)
  | 6 => ("FollowedLaws$Rounds", "roundOf", "[I", true)
  | 7 => ("FollowedLaws$Rounds", "ruleOf", "[I", true)
  | _ => ("FollowedLaws$Rounds", "sizes", "[I", true)
def tyX5 : Nat → FieldType := fun k => match k with
  | 0 => .object "FollowedLaws$Facts"
  | 1 => .object "FollowedLaws$Facts"
  | 2 => .int
  | 3 => .int
  | 4 => .int
  | 5 => .object "FollowedLaws$Facts"
  | 6 => .array .int
  | 7 => .array .int
  | _ => .array .int
abbrev wsX50 : List Cond := u_ws RX5 TX5 9
theorem nmX5 : ∀ a, a < 9 → ∀ b, b < 9 → a ≠ b → (TX5 a).2.1 ≠ (TX5 b).2.1 := by decide +kernel
theorem tyX5_ok : ∀ k, k < 9 → parseFieldDescriptor (TX5 k).2.2.1 = some (tyX5 k) := by decide +kernel
abbrev cX5_init : ByteArray := prog_7_method_1_code
def yX5_init : MethodName := ⟨RX5, "<init>", "()V"⟩
abbrev cX5_roundOf : ByteArray := prog_7_method_2_code
def yX5_roundOf : MethodName := ⟨RX5, "roundOf", "(I)I"⟩
abbrev cX5_ruleOf : ByteArray := prog_7_method_3_code
def yX5_ruleOf : MethodName := ⟨RX5, "ruleOf", "(I)I"⟩
abbrev cX5_sizeBehind : ByteArray := prog_7_method_4_code
def yX5_sizeBehind : MethodName := ⟨RX5, "sizeBehind", "(I)I"⟩
abbrev cX5_run : ByteArray := prog_7_method_5_code
def yX5_run : MethodName := ⟨RX5, "run", "(LFollowedLaws$Laws;)V"⟩
abbrev cX5_playRule : ByteArray := prog_7_method_6_code
def yX5_playRule : MethodName := ⟨RX5, "playRule", "(LFollowedLaws$Laws;I)V"⟩
abbrev cX5_takeMatch : ByteArray := prog_7_method_7_code
def yX5_takeMatch : MethodName := ⟨RX5, "takeMatch", "(JII)V"⟩
def RX6 : String := "FollowedLaws$Text"
def TX6 : u_T := fun k => match k with
  | 0 => ("FollowedLaws$Text", "signs", "[I", true)
  | _ => ("FollowedLaws$Text", "length", "I", false)
def tyX6 : Nat → FieldType := fun k => match k with
  | 0 => .array .int
  | _ => .int
abbrev wsX60 : List Cond := u_ws RX6 TX6 2
theorem nmX6 : ∀ a, a < 2 → ∀ b, b < 2 → a ≠ b → (TX6 a).2.1 ≠ (TX6 b).2.1 := by decide +kernel
theorem tyX6_ok : ∀ k, k < 2 → parseFieldDescriptor (TX6 k).2.2.1 = some (tyX6 k) := by decide +kernel
abbrev cX6_init : ByteArray := prog_8_method_1_code
def yX6_init : MethodName := ⟨RX6, "<init>", "()V"⟩
abbrev cX6_size : ByteArray := prog_8_method_2_code
def yX6_size : MethodName := ⟨RX6, "size", "()I"⟩
abbrev cX6_at : ByteArray := prog_8_method_3_code
def yX6_at : MethodName := ⟨RX6, "at", "(I)I"⟩
abbrev cX6_put : ByteArray := prog_8_method_4_code
def yX6_put : MethodName := ⟨RX6, "put", "(I)V"⟩
abbrev cX6_empty : ByteArray := prog_8_method_5_code
def yX6_empty : MethodName := ⟨RX6, "empty", "()V"⟩
def RX7 : String := "FollowedLaws"
def TX7 : u_T := fun k => match k with
  | 0 => ("FollowedLaws", "laws", "LFollowedLaws$Laws;", true)
  | 1 => ("FollowedLaws", "saved", "[LFollowedLaws$Laws;", true)
  | 2 => ("FollowedLaws", "savedCount", "I", false)
  | 3 => ("FollowedLaws", "buffer", "LFollowedLaws$Text;", true)
  | 4 => ("FollowedLaws", "reader", "LFollowedLaws$LawReader;", true)
  | 5 => ("FollowedLaws", "now", "LFollowedLaws$Rounds;", true)
  | 6 => ("FollowedLaws", "supposed", "LFollowedLaws$Laws;", true)
  | _ => ("FollowedLaws", "wouldBe", "LFollowedLaws$Rounds;", true)
def tyX7 : Nat → FieldType := fun k => match k with
  | 0 => .object "FollowedLaws$Laws"
  | 1 => .array (.object "FollowedLaws$Laws")
  | 2 => .int
  | 3 => .object "FollowedLaws$Text"
  | 4 => .object "FollowedLaws$LawReader"
  | 5 => .object "FollowedLaws$Rounds"
  | 6 => .object "FollowedLaws$Laws"
  | _ => .object "FollowedLaws$Rounds"
abbrev wsX70 : List Cond := u_ws RX7 TX7 8
theorem nmX7 : ∀ a, a < 8 → ∀ b, b < 8 → a ≠ b → (TX7 a).2.1 ≠ (TX7 b).2.1 := by decide +kernel
theorem tyX7_ok : ∀ k, k < 8 → parseFieldDescriptor (TX7 k).2.2.1 = some (tyX7 k) := by decide +kernel
abbrev cX7_init : ByteArray := prog_1_method_1_code
def yX7_init : MethodName := ⟨RX7, "<init>", "()V"⟩
abbrev cX7_tell : ByteArray := prog_1_method_2_code
def yX7_tell : MethodName := ⟨RX7, "tell", "(III)I"⟩
abbrev cX7_untell : ByteArray := prog_1_method_3_code
def yX7_untell : MethodName := ⟨RX7, "untell", "(III)I"⟩
abbrev cX7_rule : ByteArray := prog_1_method_4_code
def yX7_rule : MethodName := ⟨RX7, "rule", "(II)I"⟩
abbrev cX7_joining : ByteArray := prog_1_method_5_code
def yX7_joining : MethodName := ⟨RX7, "joining", "(III)I"⟩
abbrev cX7_remove : ByteArray := prog_1_method_6_code
def yX7_remove : MethodName := ⟨RX7, "remove", "(I)I"⟩
abbrev cX7_settle : ByteArray := prog_1_method_7_code
def yX7_settle : MethodName := ⟨RX7, "settle", "()I"⟩
abbrev cX7_append : ByteArray := prog_1_method_8_code
def yX7_append : MethodName := ⟨RX7, "append", "(I)I"⟩
abbrev cX7_clearBuffer : ByteArray := prog_1_method_9_code
def yX7_clearBuffer : MethodName := ⟨RX7, "clearBuffer", "()I"⟩
abbrev cX7_firstError : ByteArray := prog_1_method_10_code
def yX7_firstError : MethodName := ⟨RX7, "firstError", "()I"⟩
abbrev cX7_read : ByteArray := prog_1_method_11_code
def yX7_read : MethodName := ⟨RX7, "read", "()I"⟩
abbrev cX7_undo : ByteArray := prog_1_method_12_code
def yX7_undo : MethodName := ⟨RX7, "undo", "()I"⟩
abbrev cX7_told : ByteArray := prog_1_method_13_code
def yX7_told : MethodName := ⟨RX7, "told", "(I)I"⟩
abbrev cX7_partOf : ByteArray := prog_1_method_14_code
def yX7_partOf : MethodName := ⟨RX7, "partOf", "(II)I"⟩
abbrev cX7_found : ByteArray := prog_1_method_15_code
def yX7_found : MethodName := ⟨RX7, "found", "(II)I"⟩
abbrev cX7_count : ByteArray := prog_1_method_16_code
def yX7_count : MethodName := ⟨RX7, "count", "(I)I"⟩
abbrev cX7_follows : ByteArray := prog_1_method_17_code
def yX7_follows : MethodName := ⟨RX7, "follows", "(III)I"⟩
abbrev cX7_instances : ByteArray := prog_1_method_18_code
def yX7_instances : MethodName := ⟨RX7, "instances", "(III)I"⟩
abbrev cX7_behind : ByteArray := prog_1_method_19_code
def yX7_behind : MethodName := ⟨RX7, "behind", "(I)I"⟩
abbrev cX7_without : ByteArray := prog_1_method_20_code
def yX7_without : MethodName := ⟨RX7, "without", "(II)I"⟩
abbrev cX7_spare : ByteArray := prog_1_method_21_code
def yX7_spare : MethodName := ⟨RX7, "spare", "(I)I"⟩
abbrev cX7_richest : ByteArray := prog_1_method_22_code
def yX7_richest : MethodName := ⟨RX7, "richest", "(I)I"⟩
abbrev cX7_byRules : ByteArray := prog_1_method_23_code
def yX7_byRules : MethodName := ⟨RX7, "byRules", "()D"⟩
abbrev cX7_digest : ByteArray := prog_1_method_24_code
def yX7_digest : MethodName := ⟨RX7, "digest", "()J"⟩
abbrev cX7_addedRule : ByteArray := prog_1_method_25_code
def yX7_addedRule : MethodName := ⟨RX7, "addedRule", "(III)I"⟩
abbrev cX7_save : ByteArray := prog_1_method_26_code
def yX7_save : MethodName := ⟨RX7, "save", "()V"⟩
abbrev cX7_dropOldest : ByteArray := prog_1_method_27_code
def yX7_dropOldest : MethodName := ⟨RX7, "dropOldest", "()V"⟩
abbrev cX7_bitsOf : ByteArray := prog_1_method_28_code
def yX7_bitsOf : MethodName := ⟨RX7, "bitsOf", "(D)J"⟩
def RX8 : String := "FollowedLawsModel"
def TX8 : u_T := fun k => match k with
  | 0 => ("FollowedLawsModel", "thrown", "I", false)
  | 1 => ("FollowedLawsModel", "s", "[I", true)
  | 2 => ("FollowedLawsModel", "saved", "[I", true)
  | 3 => ("FollowedLawsModel", "savedMany", "I", false)
  | 4 => ("FollowedLawsModel", "buffer", "[I", true)
  | 5 => ("FollowedLawsModel", "length", "I", false)
  | 6 => ("FollowedLawsModel", "isFound", "[Z", true)
  | 7 => ("FollowedLawsModel", "roundOf", "[I", true)
  | 8 => ("FollowedLawsModel", "ruleOf", "[I", true)
  | 9 => ("FollowedLawsModel", "isNew", "[Z", true)
  | 10 => ("FollowedLawsModel", "newBy", "[I", true)
  | 11 => ("FollowedLawsModel", "behinds", "[I", true)
  | 12 => ("FollowedLawsModel", "foundMany", "I", false)
  | 13 => ("FollowedLawsModel", "rounds", "I", false)
  | 14 => ("FollowedLawsModel", "matches", "I", false)
  | 15 => ("FollowedLawsModel", "dropped", "I", false)
  | 16 => ("FollowedLawsModel", "same", "[I", true)
  | 17 => ("FollowedLawsModel", "constant", "[I", true)
  | 18 => ("FollowedLawsModel", "at", "I", false)
  | 19 => ("FollowedLawsModel", "isWell", "Z", false)
  | 20 => ("FollowedLawsModel", "laws", "[I", true)
  | 21 => ("FollowedLawsModel", "lawMany", "I", false)
  | _ => ("FollowedLawsModel", "hash", "J", false)
def tyX8 : Nat → FieldType := fun k => match k with
  | 0 => .int
  | 1 => .array .int
  | 2 => .array .int
  | 3 => .int
  | 4 => .array .int
  | 5 => .int
  | 6 => .array .boolean
  | 7 => .array .int
  | 8 => .array .int
  | 9 => .array .boolean
  | 10 => .array .int
  | 11 => .array .int
  | 12 => .int
  | 13 => .int
  | 14 => .int
  | 15 => .int
  | 16 => .array .int
  | 17 => .array .int
  | 18 => .int
  | 19 => .boolean
  | 20 => .array .int
  | 21 => .int
  | _ => .long
abbrev wsX80 : List Cond := u_ws RX8 TX8 23
theorem nmX8 : ∀ a, a < 23 → ∀ b, b < 23 → a ≠ b → (TX8 a).2.1 ≠ (TX8 b).2.1 := by decide +kernel
theorem tyX8_ok : ∀ k, k < 23 → parseFieldDescriptor (TX8 k).2.2.1 = some (tyX8 k) := by decide +kernel
abbrev cX8_init : ByteArray := prog_10_method_1_code
def yX8_init : MethodName := ⟨RX8, "<init>", "()V"⟩
abbrev cX8_thrown : ByteArray := prog_10_method_2_code
def yX8_thrown : MethodName := ⟨RX8, "thrown", "()I"⟩
abbrev cX8_in : ByteArray := prog_10_method_3_code
def yX8_in : MethodName := ⟨RX8, "in", "(III)Z"⟩
abbrev cX8_fails : ByteArray := prog_10_method_4_code
def yX8_fails : MethodName := ⟨RX8, "fails", "(I)I"⟩
abbrev cX8_saves : ByteArray := prog_10_method_5_code
def yX8_saves : MethodName := ⟨RX8, "saves", "()V"⟩
abbrev cX8_isFact : ByteArray := prog_10_method_6_code
def yX8_isFact : MethodName := ⟨RX8, "isFact", "(I)Z"⟩
abbrev cX8_isOfFact : ByteArray := prog_10_method_7_code
def yX8_isOfFact : MethodName := ⟨RX8, "isOfFact", "(III)Z"⟩
abbrev cX8_isStronger : ByteArray := prog_10_method_8_code
def yX8_isStronger : MethodName := ⟨RX8, "isStronger", "(II)Z"⟩
abbrev cX8_instancesOf : ByteArray := prog_10_method_9_code
def yX8_instancesOf : MethodName := ⟨RX8, "instancesOf", "(I)I"⟩
abbrev cX8_toldMany : ByteArray := prog_10_method_10_code
def yX8_toldMany : MethodName := ⟨RX8, "toldMany", "()I"⟩
abbrev cX8_toldAt : ByteArray := prog_10_method_11_code
def yX8_toldAt : MethodName := ⟨RX8, "toldAt", "(I)I"⟩
abbrev cX8_find : ByteArray := prog_10_method_12_code
def yX8_find : MethodName := ⟨RX8, "find", "(I)I"⟩
abbrev cX8_resolved : ByteArray := prog_10_method_13_code
def yX8_resolved : MethodName := ⟨RX8, "resolved", "(I)I"⟩
abbrev cX8_makesAlike : ByteArray := prog_10_method_14_code
def yX8_makesAlike : MethodName := ⟨RX8, "makesAlike", "(II)Z"⟩
abbrev cX8_term : ByteArray := prog_10_method_15_code
def yX8_term : MethodName := ⟨RX8, "term", "(II)I"⟩
abbrev cX8_isAlike : ByteArray := prog_10_method_16_code
def yX8_isAlike : MethodName := ⟨RX8, "isAlike", "(III)Z"⟩
abbrev cX8_opensPlaces : ByteArray := prog_10_method_17_code
def yX8_opensPlaces : MethodName := ⟨RX8, "opensPlaces", "()V"⟩
abbrev cX8_result : ByteArray := prog_10_method_18_code
def yX8_result : MethodName := ⟨RX8, "result", "(I)I"⟩
abbrev cX8_hasStronger : ByteArray := prog_10_method_19_code
def yX8_hasStronger : MethodName := ⟨RX8, "hasStronger", "(I)Z"⟩
abbrev cX8_drops : ByteArray := prog_10_method_20_code
def yX8_drops : MethodName := ⟨RX8, "drops", "()V"⟩
abbrev cX8_comes : ByteArray := prog_10_method_21_code
def yX8_comes : MethodName := ⟨RX8, "comes", "(I)V"⟩
abbrev cX8_tries : ByteArray := prog_10_method_22_code
def yX8_tries : MethodName := ⟨RX8, "tries", "(I)V"⟩
abbrev cX8_triesBoth : ByteArray := prog_10_method_23_code
def yX8_triesBoth : MethodName := ⟨RX8, "triesBoth", "(IIII)V"⟩
abbrev cX8_round : ByteArray := prog_10_method_24_code
def yX8_round : MethodName := ⟨RX8, "round", "(I)Z"⟩
abbrev cX8_searches : ByteArray := prog_10_method_25_code
def yX8_searches : MethodName := ⟨RX8, "searches", "(III)V"⟩
abbrev cX8_searchesAll : ByteArray := prog_10_method_26_code
def yX8_searchesAll : MethodName := ⟨RX8, "searchesAll", "()V"⟩
abbrev cX8_isOf : ByteArray := prog_10_method_27_code
def yX8_isOf : MethodName := ⟨RX8, "isOf", "(II)Z"⟩
abbrev cX8_isFollowing : ByteArray := prog_10_method_28_code
def yX8_isFollowing : MethodName := ⟨RX8, "isFollowing", "(I)Z"⟩
abbrev cX8_allInstances : ByteArray := prog_10_method_29_code
def yX8_allInstances : MethodName := ⟨RX8, "allInstances", "()I"⟩
abbrev cX8_foundAt : ByteArray := prog_10_method_30_code
def yX8_foundAt : MethodName := ⟨RX8, "foundAt", "(I)I"⟩
abbrev cX8_tell : ByteArray := prog_10_method_31_code
def yX8_tell : MethodName := ⟨RX8, "tell", "(III)I"⟩
abbrev cX8_untell : ByteArray := prog_10_method_32_code
def yX8_untell : MethodName := ⟨RX8, "untell", "(III)I"⟩
abbrev cX8_comesRule : ByteArray := prog_10_method_33_code
def yX8_comesRule : MethodName := ⟨RX8, "comesRule", "(III)V"⟩
abbrev cX8_adds : ByteArray := prog_10_method_34_code
def yX8_adds : MethodName := ⟨RX8, "adds", "(III)I"⟩
abbrev cX8_rule : ByteArray := prog_10_method_35_code
def yX8_rule : MethodName := ⟨RX8, "rule", "(II)I"⟩
abbrev cX8_joining : ByteArray := prog_10_method_36_code
def yX8_joining : MethodName := ⟨RX8, "joining", "(III)I"⟩
abbrev cX8_remove : ByteArray := prog_10_method_37_code
def yX8_remove : MethodName := ⟨RX8, "remove", "(I)I"⟩
abbrev cX8_settle : ByteArray := prog_10_method_38_code
def yX8_settle : MethodName := ⟨RX8, "settle", "()I"⟩
abbrev cX8_append : ByteArray := prog_10_method_39_code
def yX8_append : MethodName := ⟨RX8, "append", "(I)I"⟩
abbrev cX8_clearBuffer : ByteArray := prog_10_method_40_code
def yX8_clearBuffer : MethodName := ⟨RX8, "clearBuffer", "()I"⟩
abbrev cX8_sign : ByteArray := prog_10_method_41_code
def yX8_sign : MethodName := ⟨RX8, "sign", "()I"⟩
abbrev cX8_takes : ByteArray := prog_10_method_42_code
def yX8_takes : MethodName := ⟨RX8, "takes", "(I)Z"⟩
abbrev cX8_wantsTerm : ByteArray := prog_10_method_43_code
def yX8_wantsTerm : MethodName := ⟨RX8, "wantsTerm", "()I"⟩
abbrev cX8_wantsPart : ByteArray := prog_10_method_44_code
def yX8_wantsPart : MethodName := ⟨RX8, "wantsPart", "()I"⟩
abbrev cX8_readsLaw : ByteArray := prog_10_method_45_code
def yX8_readsLaw : MethodName := ⟨RX8, "readsLaw", "()V"⟩
abbrev cX8_readsAll : ByteArray := prog_10_method_46_code
def yX8_readsAll : MethodName := ⟨RX8, "readsAll", "()V"⟩
abbrev cX8_firstError : ByteArray := prog_10_method_47_code
def yX8_firstError : MethodName := ⟨RX8, "firstError", "()I"⟩
abbrev cX8_hasRoom : ByteArray := prog_10_method_48_code
def yX8_hasRoom : MethodName := ⟨RX8, "hasRoom", "()Z"⟩
abbrev cX8_read : ByteArray := prog_10_method_49_code
def yX8_read : MethodName := ⟨RX8, "read", "()I"⟩
abbrev cX8_undo : ByteArray := prog_10_method_50_code
def yX8_undo : MethodName := ⟨RX8, "undo", "()I"⟩
abbrev cX8_told : ByteArray := prog_10_method_51_code
def yX8_told : MethodName := ⟨RX8, "told", "(I)I"⟩
abbrev cX8_partOf : ByteArray := prog_10_method_52_code
def yX8_partOf : MethodName := ⟨RX8, "partOf", "(II)I"⟩
abbrev cX8_tellsFound : ByteArray := prog_10_method_53_code
def yX8_tellsFound : MethodName := ⟨RX8, "tellsFound", "(II)I"⟩
abbrev cX8_found : ByteArray := prog_10_method_54_code
def yX8_found : MethodName := ⟨RX8, "found", "(II)I"⟩
abbrev cX8_counts : ByteArray := prog_10_method_55_code
def yX8_counts : MethodName := ⟨RX8, "counts", "(I)I"⟩
abbrev cX8_count : ByteArray := prog_10_method_56_code
def yX8_count : MethodName := ⟨RX8, "count", "(I)I"⟩
abbrev cX8_following : ByteArray := prog_10_method_57_code
def yX8_following : MethodName := ⟨RX8, "following", "(I)I"⟩
abbrev cX8_follows : ByteArray := prog_10_method_58_code
def yX8_follows : MethodName := ⟨RX8, "follows", "(III)I"⟩
abbrev cX8_maskOf : ByteArray := prog_10_method_59_code
def yX8_maskOf : MethodName := ⟨RX8, "maskOf", "(I)I"⟩
abbrev cX8_instances : ByteArray := prog_10_method_60_code
def yX8_instances : MethodName := ⟨RX8, "instances", "(III)I"⟩
abbrev cX8_behindRound : ByteArray := prog_10_method_61_code
def yX8_behindRound : MethodName := ⟨RX8, "behindRound", "(I)I"⟩
abbrev cX8_behind : ByteArray := prog_10_method_62_code
def yX8_behind : MethodName := ⟨RX8, "behind", "(I)I"⟩
abbrev cX8_withoutRule : ByteArray := prog_10_method_63_code
def yX8_withoutRule : MethodName := ⟨RX8, "withoutRule", "(II)I"⟩
abbrev cX8_without : ByteArray := prog_10_method_64_code
def yX8_without : MethodName := ⟨RX8, "without", "(II)I"⟩
abbrev cX8_spareAt : ByteArray := prog_10_method_65_code
def yX8_spareAt : MethodName := ⟨RX8, "spareAt", "(I)I"⟩
abbrev cX8_spare : ByteArray := prog_10_method_66_code
def yX8_spare : MethodName := ⟨RX8, "spare", "(I)I"⟩
abbrev cX8_richestOf : ByteArray := prog_10_method_67_code
def yX8_richestOf : MethodName := ⟨RX8, "richestOf", "(I)I"⟩
abbrev cX8_richest : ByteArray := prog_10_method_68_code
def yX8_richest : MethodName := ⟨RX8, "richest", "(I)I"⟩
abbrev cX8_ruled : ByteArray := prog_10_method_69_code
def yX8_ruled : MethodName := ⟨RX8, "ruled", "()D"⟩
abbrev cX8_byRules : ByteArray := prog_10_method_70_code
def yX8_byRules : MethodName := ⟨RX8, "byRules", "()D"⟩
abbrev cX8_hashes : ByteArray := prog_10_method_71_code
def yX8_hashes : MethodName := ⟨RX8, "hashes", "(J)V"⟩
abbrev cX8_digest : ByteArray := prog_10_method_72_code
def yX8_digest : MethodName := ⟨RX8, "digest", "()J"⟩
def RJx145de : String := "java/io/Serializable"
def TJx145de : u_T := fun k => match k with
  | _ => ("", "", "", false)
def tyJx145de : Nat → FieldType := fun k => match k with
  | _ => .int
abbrev wsJx145de0 : List Cond := u_ws RJx145de TJx145de 0
theorem nmJx145de : ∀ a, a < 0 → ∀ b, b < 0 → a ≠ b → (TJx145de a).2.1 ≠ (TJx145de b).2.1 := by decide +kernel
theorem tyJx145de_ok : ∀ k, k < 0 → parseFieldDescriptor (TJx145de k).2.2.1 = some (tyJx145de k) := by decide +kernel
def RJxb160c : String := "java/lang/Comparable"
def TJxb160c : u_T := fun k => match k with
  | _ => ("", "", "", false)
def tyJxb160c : Nat → FieldType := fun k => match k with
  | _ => .int
abbrev wsJxb160c0 : List Cond := u_ws RJxb160c TJxb160c 0
theorem nmJxb160c : ∀ a, a < 0 → ∀ b, b < 0 → a ≠ b → (TJxb160c a).2.1 ≠ (TJxb160c b).2.1 := by decide +kernel
theorem tyJxb160c_ok : ∀ k, k < 0 → parseFieldDescriptor (TJxb160c k).2.2.1 = some (tyJxb160c k) := by decide +kernel
def RJxe99ae : String := "java/lang/Double"
def TJxe99ae : u_T := fun k => match k with
  | _ => ("", "", "", false)
def tyJxe99ae : Nat → FieldType := fun k => match k with
  | _ => .int
abbrev wsJxe99ae0 : List Cond := u_ws RJxe99ae TJxe99ae 0
theorem nmJxe99ae : ∀ a, a < 0 → ∀ b, b < 0 → a ≠ b → (TJxe99ae a).2.1 ≠ (TJxe99ae b).2.1 := by decide +kernel
theorem tyJxe99ae_ok : ∀ k, k < 0 → parseFieldDescriptor (TJxe99ae k).2.2.1 = some (tyJxe99ae k) := by decide +kernel
abbrev cJxe99ae_isNaN_b9ae7 : ByteArray := prog_11_method_6_code
def yJxe99ae_isNaN_b9ae7 : MethodName := ⟨RJxe99ae, "isNaN", "(D)Z"⟩
abbrev cJxe99ae_doubleToLongBits_ccdee : ByteArray := prog_11_method_23_code
def yJxe99ae_doubleToLongBits_ccdee : MethodName := ⟨RJxe99ae, "doubleToLongBits", "(D)J"⟩
def RJ6 : String := "java/lang/Integer"
def TJ6 : u_T := fun k => match k with
  | _ => ("", "", "", false)
def tyJ6 : Nat → FieldType := fun k => match k with
  | _ => .int
abbrev wsJ60 : List Cond := u_ws RJ6 TJ6 0
theorem nmJ6 : ∀ a, a < 0 → ∀ b, b < 0 → a ≠ b → (TJ6 a).2.1 ≠ (TJ6 b).2.1 := by decide +kernel
theorem tyJ6_ok : ∀ k, k < 0 → parseFieldDescriptor (TJ6 k).2.2.1 = some (tyJ6 k) := by decide +kernel
abbrev cJ6_bitCount_0f7a4 : ByteArray := prog_16_method_49_code
def yJ6_bitCount_0f7a4 : MethodName := ⟨RJ6, "bitCount", "(I)I"⟩
def RJ13 : String := "java/lang/Long"
def TJ13 : u_T := fun k => match k with
  | _ => ("", "", "", false)
def tyJ13 : Nat → FieldType := fun k => match k with
  | _ => .int
abbrev wsJ130 : List Cond := u_ws RJ13 TJ13 0
theorem nmJ13 : ∀ a, a < 0 → ∀ b, b < 0 → a ≠ b → (TJ13 a).2.1 ≠ (TJ13 b).2.1 := by decide +kernel
theorem tyJ13_ok : ∀ k, k < 0 → parseFieldDescriptor (TJ13 k).2.2.1 = some (tyJ13 k) := by decide +kernel
abbrev cJ13_bitCount_95d88 : ByteArray := prog_17_method_50_code
def yJ13_bitCount_95d88 : MethodName := ⟨RJ13, "bitCount", "(J)I"⟩
def RJ9 : String := "java/lang/Math"
def TJ9 : u_T := fun k => match k with
  | _ => ("", "", "", false)
def tyJ9 : Nat → FieldType := fun k => match k with
  | _ => .int
abbrev wsJ90 : List Cond := u_ws RJ9 TJ9 0
theorem nmJ9 : ∀ a, a < 0 → ∀ b, b < 0 → a ≠ b → (TJ9 a).2.1 ≠ (TJ9 b).2.1 := by decide +kernel
theorem tyJ9_ok : ∀ k, k < 0 → parseFieldDescriptor (TJ9 k).2.2.1 = some (tyJ9 k) := by decide +kernel
abbrev cJ9_max_7cf53 : ByteArray := prog_18_method_65_code
def yJ9_max_7cf53 : MethodName := ⟨RJ9, "max", "(II)I"⟩
abbrev cJ9_min_7cf53 : ByteArray := prog_18_method_69_code
def yJ9_min_7cf53 : MethodName := ⟨RJ9, "min", "(II)I"⟩
def RJxd2413 : String := "java/lang/Number"
def TJxd2413 : u_T := fun k => match k with
  | _ => ("", "", "", false)
def tyJxd2413 : Nat → FieldType := fun k => match k with
  | _ => .int
abbrev wsJxd24130 : List Cond := u_ws RJxd2413 TJxd2413 0
theorem nmJxd2413 : ∀ a, a < 0 → ∀ b, b < 0 → a ≠ b → (TJxd2413 a).2.1 ≠ (TJxd2413 b).2.1 := by decide +kernel
theorem tyJxd2413_ok : ∀ k, k < 0 → parseFieldDescriptor (TJxd2413 k).2.2.1 = some (tyJxd2413 k) := by decide +kernel
def RJ0 : String := "java/lang/String"
def TJ0 : u_T := fun k => match k with
  | _ => ("", "", "", false)
def tyJ0 : Nat → FieldType := fun k => match k with
  | _ => .int
abbrev wsJ00 : List Cond := u_ws RJ0 TJ0 0
theorem nmJ0 : ∀ a, a < 0 → ∀ b, b < 0 → a ≠ b → (TJ0 a).2.1 ≠ (TJ0 b).2.1 := by decide +kernel
theorem tyJ0_ok : ∀ k, k < 0 → parseFieldDescriptor (TJ0 k).2.2.1 = some (tyJ0 k) := by decide +kernel
def RJxfd54e : String := "java/lang/constant/Constable"
def TJxfd54e : u_T := fun k => match k with
  | _ => ("", "", "", false)
def tyJxfd54e : Nat → FieldType := fun k => match k with
  | _ => .int
abbrev wsJxfd54e0 : List Cond := u_ws RJxfd54e TJxfd54e 0
theorem nmJxfd54e : ∀ a, a < 0 → ∀ b, b < 0 → a ≠ b → (TJxfd54e a).2.1 ≠ (TJxfd54e b).2.1 := by decide +kernel
theorem tyJxfd54e_ok : ∀ k, k < 0 → parseFieldDescriptor (TJxfd54e k).2.2.1 = some (tyJxfd54e k) := by decide +kernel
def RJx3cf43 : String := "java/lang/constant/ConstantDesc"
def TJx3cf43 : u_T := fun k => match k with
  | _ => ("", "", "", false)
def tyJx3cf43 : Nat → FieldType := fun k => match k with
  | _ => .int
abbrev wsJx3cf430 : List Cond := u_ws RJx3cf43 TJx3cf43 0
theorem nmJx3cf43 : ∀ a, a < 0 → ∀ b, b < 0 → a ≠ b → (TJx3cf43 a).2.1 ≠ (TJx3cf43 b).2.1 := by decide +kernel
theorem tyJx3cf43_ok : ∀ k, k < 0 → parseFieldDescriptor (TJx3cf43 k).2.2.1 = some (tyJx3cf43 k) := by decide +kernel
def RJ7 : String := "java/util/Arrays"
def TJ7 : u_T := fun k => match k with
  | _ => ("", "", "", false)
def tyJ7 : Nat → FieldType := fun k => match k with
  | _ => .int
abbrev wsJ70 : List Cond := u_ws RJ7 TJ7 0
theorem nmJ7 : ∀ a, a < 0 → ∀ b, b < 0 → a ≠ b → (TJ7 a).2.1 ≠ (TJ7 b).2.1 := by decide +kernel
theorem tyJ7_ok : ∀ k, k < 0 → parseFieldDescriptor (TJ7 k).2.2.1 = some (tyJ7 k) := by decide +kernel
abbrev cJ7_fill_53178 : ByteArray := prog_23_method_103_code
def yJ7_fill_53178 : MethodName := ⟨RJ7, "fill", "([II)V"⟩
def RL : String := "FollowedLawsLaw"
abbrev cL_tell : ByteArray := method_3_code
def yL_tell : MethodName := ⟨RL, "tell", "(LFollowedLaws;III[J)I"⟩
abbrev cL_untell : ByteArray := method_4_code
def yL_untell : MethodName := ⟨RL, "untell", "(LFollowedLaws;III[J)I"⟩
abbrev cL_rule : ByteArray := method_5_code
def yL_rule : MethodName := ⟨RL, "rule", "(LFollowedLaws;II[J)I"⟩
abbrev cL_joining : ByteArray := method_6_code
def yL_joining : MethodName := ⟨RL, "joining", "(LFollowedLaws;III[J)I"⟩
abbrev cL_remove : ByteArray := method_7_code
def yL_remove : MethodName := ⟨RL, "remove", "(LFollowedLaws;I[J)I"⟩
abbrev cL_settle : ByteArray := method_8_code
def yL_settle : MethodName := ⟨RL, "settle", "(LFollowedLaws;[J)I"⟩
abbrev cL_append : ByteArray := method_9_code
def yL_append : MethodName := ⟨RL, "append", "(LFollowedLaws;I[J)I"⟩
abbrev cL_read : ByteArray := method_10_code
def yL_read : MethodName := ⟨RL, "read", "(LFollowedLaws;[J)I"⟩
abbrev cL_undo : ByteArray := method_11_code
def yL_undo : MethodName := ⟨RL, "undo", "(LFollowedLaws;[J)I"⟩
abbrev cL_told : ByteArray := method_12_code
def yL_told : MethodName := ⟨RL, "told", "(LFollowedLaws;I[J)I"⟩
abbrev cL_partOf : ByteArray := method_13_code
def yL_partOf : MethodName := ⟨RL, "partOf", "(LFollowedLaws;II[J)I"⟩
abbrev cL_found : ByteArray := method_14_code
def yL_found : MethodName := ⟨RL, "found", "(LFollowedLaws;II[J)I"⟩
abbrev cL_count : ByteArray := method_15_code
def yL_count : MethodName := ⟨RL, "count", "(LFollowedLaws;I[J)I"⟩
abbrev cL_follows : ByteArray := method_16_code
def yL_follows : MethodName := ⟨RL, "follows", "(LFollowedLaws;III[J)I"⟩
abbrev cL_instances : ByteArray := method_17_code
def yL_instances : MethodName := ⟨RL, "instances", "(LFollowedLaws;III[J)I"⟩
abbrev cL_behind : ByteArray := method_18_code
def yL_behind : MethodName := ⟨RL, "behind", "(LFollowedLaws;I[J)I"⟩
abbrev cL_without : ByteArray := method_19_code
def yL_without : MethodName := ⟨RL, "without", "(LFollowedLaws;II[J)I"⟩
abbrev cL_spare : ByteArray := method_20_code
def yL_spare : MethodName := ⟨RL, "spare", "(LFollowedLaws;I[J)I"⟩
abbrev cL_richest : ByteArray := method_21_code
def yL_richest : MethodName := ⟨RL, "richest", "(LFollowedLaws;I[J)I"⟩
abbrev cL_law : ByteArray := code
def yL_law : MethodName := ⟨RL, "law", "([I)Z"⟩
abbrev vwCl : List vw_C := [(RX2, TX2, 1), (RX3, TX3, 3), (RX4, TX4, 3), (RX5, TX5, 9), (RX6, TX6, 2), (RX7, TX7, 8), (RX8, TX8, 23)]
