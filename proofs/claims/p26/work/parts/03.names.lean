/-! ===== BEGIN printed: names, fields, word lists, decode rows ===== -/
def RX0 : String := "FollowedLaws$Alike"
def TX0 : u_T := fun k => match k with
  | _ => ("", "", "", false)
def tyX0 : Nat → FieldType := fun k => match k with
  | _ => .int
abbrev wsX00 : List Cond := u_ws RX0 TX0 0
theorem nmX0 : ∀ a, a < 0 → ∀ b, b < 0 → a ≠ b → (TX0 a).2.1 ≠ (TX0 b).2.1 := by decide +kernel
theorem tyX0_ok : ∀ k, k < 0 → parseFieldDescriptor (TX0 k).2.2.1 = some (tyX0 k) := by decide +kernel
abbrev cX0_withFact : ByteArray := prog_2_method_2_code
def yX0_withFact : MethodName := ⟨RX0, "withFact", "(JIII)J"⟩
abbrev cX0_result : ByteArray := prog_2_method_3_code
def yX0_result : MethodName := ⟨RX0, "result", "(JI)I"⟩
abbrev cX0_ownTerm : ByteArray := prog_2_method_4_code
def yX0_ownTerm : MethodName := ⟨RX0, "ownTerm", "(II)I"⟩
abbrev cX0_become : ByteArray := prog_2_method_5_code
def yX0_become : MethodName := ⟨RX0, "become", "(JI)I"⟩
abbrev cX0_joined : ByteArray := prog_2_method_6_code
def yX0_joined : MethodName := ⟨RX0, "joined", "(JII)J"⟩
def RX1 : String := "FollowedLaws$Atom"
def TX1 : u_T := fun k => match k with
  | _ => ("", "", "", false)
def tyX1 : Nat → FieldType := fun k => match k with
  | _ => .int
abbrev wsX10 : List Cond := u_ws RX1 TX1 0
theorem nmX1 : ∀ a, a < 0 → ∀ b, b < 0 → a ≠ b → (TX1 a).2.1 ≠ (TX1 b).2.1 := by decide +kernel
theorem tyX1_ok : ∀ k, k < 0 → parseFieldDescriptor (TX1 k).2.2.1 = some (tyX1 k) := by decide +kernel
abbrev cX1_isAtom : ByteArray := prog_3_method_2_code
def yX1_isAtom : MethodName := ⟨RX1, "isAtom", "(I)Z"⟩
abbrev cX1_isFact : ByteArray := prog_3_method_3_code
def yX1_isFact : MethodName := ⟨RX1, "isFact", "(III)Z"⟩
abbrev cX1_of : ByteArray := prog_3_method_4_code
def yX1_of : MethodName := ⟨RX1, "of", "(III)I"⟩
abbrev cX1_predicate : ByteArray := prog_3_method_5_code
def yX1_predicate : MethodName := ⟨RX1, "predicate", "(I)I"⟩
abbrev cX1_pair : ByteArray := prog_3_method_6_code
def yX1_pair : MethodName := ⟨RX1, "pair", "(I)I"⟩
abbrev cX1_first : ByteArray := prog_3_method_7_code
def yX1_first : MethodName := ⟨RX1, "first", "(I)I"⟩
abbrev cX1_second : ByteArray := prog_3_method_8_code
def yX1_second : MethodName := ⟨RX1, "second", "(I)I"⟩
abbrev cX1_strongerPairs : ByteArray := prog_3_method_9_code
def yX1_strongerPairs : MethodName := ⟨RX1, "strongerPairs", "(I)J"⟩
abbrev cX1_instanceMask : ByteArray := prog_3_method_10_code
def yX1_instanceMask : MethodName := ⟨RX1, "instanceMask", "(I)I"⟩
def RX2 : String := "FollowedLaws$Facts"
def TX2 : u_T := fun k => match k with
  | _ => ("FollowedLaws$Facts", "masks", "[J", true)
def tyX2 : Nat → FieldType := fun k => match k with
  | _ => .array .long
abbrev wsX20 : List Cond := u_ws RX2 TX2 1
theorem nmX2 : ∀ a, a < 1 → ∀ b, b < 1 → a ≠ b → (TX2 a).2.1 ≠ (TX2 b).2.1 := by decide +kernel
theorem tyX2_ok : ∀ k, k < 1 → parseFieldDescriptor (TX2 k).2.2.1 = some (tyX2 k) := by decide +kernel
abbrev cX2_init : ByteArray := prog_4_method_1_code
def yX2_init : MethodName := ⟨RX2, "<init>", "()V"⟩
abbrev cX2_has : ByteArray := prog_4_method_2_code
def yX2_has : MethodName := ⟨RX2, "has", "(I)Z"⟩
abbrev cX2_put : ByteArray := prog_4_method_3_code
def yX2_put : MethodName := ⟨RX2, "put", "(I)V"⟩
abbrev cX2_take : ByteArray := prog_4_method_4_code
def yX2_take : MethodName := ⟨RX2, "take", "(I)V"⟩
abbrev cX2_empty : ByteArray := prog_4_method_5_code
def yX2_empty : MethodName := ⟨RX2, "empty", "()V"⟩
abbrev cX2_copyOf : ByteArray := prog_4_method_6_code
def yX2_copyOf : MethodName := ⟨RX2, "copyOf", "(LFollowedLaws$Facts;)V"⟩
abbrev cX2_putAll : ByteArray := prog_4_method_7_code
def yX2_putAll : MethodName := ⟨RX2, "putAll", "(LFollowedLaws$Facts;)V"⟩
abbrev cX2_size : ByteArray := prog_4_method_8_code
def yX2_size : MethodName := ⟨RX2, "size", "()I"⟩
abbrev cX2_at : ByteArray := prog_4_method_9_code
def yX2_at : MethodName := ⟨RX2, "at", "(I)I"⟩
abbrev cX2_hasPair : ByteArray := prog_4_method_10_code
def yX2_hasPair : MethodName := ⟨RX2, "hasPair", "(II)Z"⟩
abbrev cX2_dropWeaker : ByteArray := prog_4_method_11_code
def yX2_dropWeaker : MethodName := ⟨RX2, "dropWeaker", "()I"⟩
abbrev cX2_allFrom : ByteArray := prog_4_method_12_code
def yX2_allFrom : MethodName := ⟨RX2, "allFrom", "(LFollowedLaws$Facts;)V"⟩
abbrev cX2_weakerPairs : ByteArray := prog_4_method_13_code
def yX2_weakerPairs : MethodName := ⟨RX2, "weakerPairs", "(J)J"⟩
abbrev cX2_instancesWith : ByteArray := prog_4_method_14_code
def yX2_instancesWith : MethodName := ⟨RX2, "instancesWith", "(I)I"⟩
abbrev cX2_instanceCount : ByteArray := prog_4_method_15_code
def yX2_instanceCount : MethodName := ⟨RX2, "instanceCount", "()I"⟩
def RX3 : String := "FollowedLaws$LawReader"
def TX3 : u_T := fun k => match k with
  | 0 => ("FollowedLaws$LawReader", "atoms", "[I", true)
  | 1 => ("FollowedLaws$LawReader", "atom", "I", false)
  | _ => ("FollowedLaws$LawReader", "next", "I", false)
def tyX3 : Nat → FieldType := fun k => match k with
  | 0 => .array .int
  | 1 => .int
  | _ => .int
abbrev wsX30 : List Cond := u_ws RX3 TX3 3
theorem nmX3 : ∀ a, a < 3 → ∀ b, b < 3 → a ≠ b → (TX3 a).2.1 ≠ (TX3 b).2.1 := by decide +kernel
theorem tyX3_ok : ∀ k, k < 3 → parseFieldDescriptor (TX3 k).2.2.1 = some (tyX3 k) := by decide +kernel
abbrev cX3_init : ByteArray := prog_5_method_1_code
def yX3_init : MethodName := ⟨RX3, "<init>", "()V"⟩
def RX4 : String := "FollowedLaws$Laws"
def TX4 : u_T := fun k => match k with
  | 0 => ("FollowedLaws$Laws", "told", "LFollowedLaws$Facts;", true)
  | 1 => ("FollowedLaws$Laws", "rows", "[I", true)
  | _ => ("FollowedLaws$Laws", "rules", "I", false)
def tyX4 : Nat → FieldType := fun k => match k with
  | 0 => .object "FollowedLaws$Facts"
  | 1 => .array .int
  | _ => .int
abbrev wsX40 : List Cond := u_ws RX4 TX4 3
theorem nmX4 : ∀ a, a < 3 → ∀ b, b < 3 → a ≠ b → (TX4 a).2.1 ≠ (TX4 b).2.1 := by decide +kernel
theorem tyX4_ok : ∀ k, k < 3 → parseFieldDescriptor (TX4 k).2.2.1 = some (tyX4 k) := by decide +kernel
abbrev cX4_init : ByteArray := prog_6_method_1_code
def yX4_init : MethodName := ⟨RX4, "<init>", "()V"⟩
abbrev cX4_ruleCount : ByteArray := prog_6_method_2_code
def yX4_ruleCount : MethodName := ⟨RX4, "ruleCount", "()I"⟩
abbrev cX4_hasRule : ByteArray := prog_6_method_3_code
def yX4_hasRule : MethodName := ⟨RX4, "hasRule", "(I)Z"⟩
abbrev cX4_atomAt : ByteArray := prog_6_method_4_code
def yX4_atomAt : MethodName := ⟨RX4, "atomAt", "(II)I"⟩
abbrev cX4_addRule : ByteArray := prog_6_method_5_code
def yX4_addRule : MethodName := ⟨RX4, "addRule", "(III)Z"⟩
abbrev cX4_dropRule : ByteArray := prog_6_method_6_code
def yX4_dropRule : MethodName := ⟨RX4, "dropRule", "(I)V"⟩
abbrev cX4_copyOf : ByteArray := prog_6_method_7_code
def yX4_copyOf : MethodName := ⟨RX4, "copyOf", "(LFollowedLaws$Laws;)V"⟩
def RX5 : String := "FollowedLaws$Rounds"
def TX5 : u_T := fun k => match k with
  | 0 => ("FollowedLaws$Rounds", "held", "LFollowedLaws$Facts;", true)
  | 1 => ("FollowedLaws$Rounds", "following", "LFollowedLaws$Facts;", true)
  | 2 => ("FollowedLaws$Rounds", "rounds", "I", false)
  | 3 => ("FollowedLaws$Rounds", "matches", "I", false)
  | 4 => ("FollowedLaws$Rounds", "dropped", "I", false)
  | 5 => ("FollowedLaws$Rounds", "fresh", "LFollowedLaws$Facts;", true)
  | 6 => ("FollowedLaws$Rounds", "roundOf", "[I", true)
  | 7 => ("FollowedLaws$Rounds", "ruleOf", "[I", true)
  | _ => ("FollowedLaws$Rounds", "sizes", "[I", true)
def tyX5 : Nat → FieldType := fun k => match k with
  | 0 => .object "FollowedLaws$Facts"
  | 1 => .object "FollowedLaws$Facts"
  | 2 => .int
  | 3 => .int
  | 4 => .int
  | 5 => .object "FollowedLaws$Facts"
  | 6 => .array .int
  | 7 => .array .int
  | _ => .array .int
abbrev wsX50 : List Cond := u_ws RX5 TX5 9
theorem nmX5 : ∀ a, a < 9 → ∀ b, b < 9 → a ≠ b → (TX5 a).2.1 ≠ (TX5 b).2.1 := by decide +kernel
theorem tyX5_ok : ∀ k, k < 9 → parseFieldDescriptor (TX5 k).2.2.1 = some (tyX5 k) := by decide +kernel
abbrev cX5_init : ByteArray := prog_7_method_1_code
def yX5_init : MethodName := ⟨RX5, "<init>", "()V"⟩
abbrev cX5_roundOf : ByteArray := prog_7_method_2_code
def yX5_roundOf : MethodName := ⟨RX5, "roundOf", "(I)I"⟩
abbrev cX5_ruleOf : ByteArray := prog_7_method_3_code
def yX5_ruleOf : MethodName := ⟨RX5, "ruleOf", "(I)I"⟩
abbrev cX5_sizeBehind : ByteArray := prog_7_method_4_code
def yX5_sizeBehind : MethodName := ⟨RX5, "sizeBehind", "(I)I"⟩
abbrev cX5_run : ByteArray := prog_7_method_5_code
def yX5_run : MethodName := ⟨RX5, "run", "(LFollowedLaws$Laws;)V"⟩
abbrev cX5_playRule : ByteArray := prog_7_method_6_code
def yX5_playRule : MethodName := ⟨RX5, "playRule", "(LFollowedLaws$Laws;I)V"⟩
abbrev cX5_takeMatch : ByteArray := prog_7_method_7_code
def yX5_takeMatch : MethodName := ⟨RX5, "takeMatch", "(JII)V"⟩
def RX6 : String := "FollowedLaws$Text"
def TX6 : u_T := fun k => match k with
  | 0 => ("FollowedLaws$Text", "signs", "[I", true)
  | _ => ("FollowedLaws$Text", "length", "I", false)
def tyX6 : Nat → FieldType := fun k => match k with
  | 0 => .array .int
  | _ => .int
abbrev wsX60 : List Cond := u_ws RX6 TX6 2
theorem nmX6 : ∀ a, a < 2 → ∀ b, b < 2 → a ≠ b → (TX6 a).2.1 ≠ (TX6 b).2.1 := by decide +kernel
theorem tyX6_ok : ∀ k, k < 2 → parseFieldDescriptor (TX6 k).2.2.1 = some (tyX6 k) := by decide +kernel
abbrev cX6_init : ByteArray := prog_8_method_1_code
def yX6_init : MethodName := ⟨RX6, "<init>", "()V"⟩
abbrev cX6_size : ByteArray := prog_8_method_2_code
def yX6_size : MethodName := ⟨RX6, "size", "()I"⟩
abbrev cX6_at : ByteArray := prog_8_method_3_code
def yX6_at : MethodName := ⟨RX6, "at", "(I)I"⟩
def RX7 : String := "FollowedLaws"
def TX7 : u_T := fun k => match k with
  | 0 => ("FollowedLaws", "laws", "LFollowedLaws$Laws;", true)
  | 1 => ("FollowedLaws", "saved", "[LFollowedLaws$Laws;", true)
  | 2 => ("FollowedLaws", "savedCount", "I", false)
  | 3 => ("FollowedLaws", "buffer", "LFollowedLaws$Text;", true)
  | 4 => ("FollowedLaws", "reader", "LFollowedLaws$LawReader;", true)
  | 5 => ("FollowedLaws", "now", "LFollowedLaws$Rounds;", true)
  | 6 => ("FollowedLaws", "supposed", "LFollowedLaws$Laws;", true)
  | _ => ("FollowedLaws", "wouldBe", "LFollowedLaws$Rounds;", true)
def tyX7 : Nat → FieldType := fun k => match k with
  | 0 => .object "FollowedLaws$Laws"
  | 1 => .array (.object "FollowedLaws$Laws")
  | 2 => .int
  | 3 => .object "FollowedLaws$Text"
  | 4 => .object "FollowedLaws$LawReader"
  | 5 => .object "FollowedLaws$Rounds"
  | 6 => .object "FollowedLaws$Laws"
  | _ => .object "FollowedLaws$Rounds"
abbrev wsX70 : List Cond := u_ws RX7 TX7 8
theorem nmX7 : ∀ a, a < 8 → ∀ b, b < 8 → a ≠ b → (TX7 a).2.1 ≠ (TX7 b).2.1 := by decide +kernel
theorem tyX7_ok : ∀ k, k < 8 → parseFieldDescriptor (TX7 k).2.2.1 = some (tyX7 k) := by decide +kernel
abbrev cX7_init : ByteArray := prog_1_method_1_code
def yX7_init : MethodName := ⟨RX7, "<init>", "()V"⟩
abbrev cX7_tell : ByteArray := prog_1_method_2_code
def yX7_tell : MethodName := ⟨RX7, "tell", "(III)I"⟩
abbrev cX7_untell : ByteArray := prog_1_method_3_code
def yX7_untell : MethodName := ⟨RX7, "untell", "(III)I"⟩
abbrev cX7_rule : ByteArray := prog_1_method_4_code
def yX7_rule : MethodName := ⟨RX7, "rule", "(II)I"⟩
abbrev cX7_joining : ByteArray := prog_1_method_5_code
def yX7_joining : MethodName := ⟨RX7, "joining", "(III)I"⟩
abbrev cX7_remove : ByteArray := prog_1_method_6_code
def yX7_remove : MethodName := ⟨RX7, "remove", "(I)I"⟩
abbrev cX7_settle : ByteArray := prog_1_method_7_code
def yX7_settle : MethodName := ⟨RX7, "settle", "()I"⟩
abbrev cX7_undo : ByteArray := prog_1_method_12_code
def yX7_undo : MethodName := ⟨RX7, "undo", "()I"⟩
abbrev cX7_told : ByteArray := prog_1_method_13_code
def yX7_told : MethodName := ⟨RX7, "told", "(I)I"⟩
abbrev cX7_partOf : ByteArray := prog_1_method_14_code
def yX7_partOf : MethodName := ⟨RX7, "partOf", "(II)I"⟩
abbrev cX7_found : ByteArray := prog_1_method_15_code
def yX7_found : MethodName := ⟨RX7, "found", "(II)I"⟩
abbrev cX7_count : ByteArray := prog_1_method_16_code
def yX7_count : MethodName := ⟨RX7, "count", "(I)I"⟩
abbrev cX7_follows : ByteArray := prog_1_method_17_code
def yX7_follows : MethodName := ⟨RX7, "follows", "(III)I"⟩
abbrev cX7_instances : ByteArray := prog_1_method_18_code
def yX7_instances : MethodName := ⟨RX7, "instances", "(III)I"⟩
abbrev cX7_behind : ByteArray := prog_1_method_19_code
def yX7_behind : MethodName := ⟨RX7, "behind", "(I)I"⟩
abbrev cX7_without : ByteArray := prog_1_method_20_code
def yX7_without : MethodName := ⟨RX7, "without", "(II)I"⟩
abbrev cX7_spare : ByteArray := prog_1_method_21_code
def yX7_spare : MethodName := ⟨RX7, "spare", "(I)I"⟩
abbrev cX7_richest : ByteArray := prog_1_method_22_code
def yX7_richest : MethodName := ⟨RX7, "richest", "(I)I"⟩
abbrev cX7_byRules : ByteArray := prog_1_method_23_code
def yX7_byRules : MethodName := ⟨RX7, "byRules", "()D"⟩
abbrev cX7_digest : ByteArray := prog_1_method_24_code
def yX7_digest : MethodName := ⟨RX7, "digest", "()J"⟩
abbrev cX7_addedRule : ByteArray := prog_1_method_25_code
def yX7_addedRule : MethodName := ⟨RX7, "addedRule", "(III)I"⟩
abbrev cX7_save : ByteArray := prog_1_method_26_code
def yX7_save : MethodName := ⟨RX7, "save", "()V"⟩
abbrev cX7_dropOldest : ByteArray := prog_1_method_27_code
def yX7_dropOldest : MethodName := ⟨RX7, "dropOldest", "()V"⟩
abbrev cX7_bitsOf : ByteArray := prog_1_method_28_code
def yX7_bitsOf : MethodName := ⟨RX7, "bitsOf", "(D)J"⟩
def RX8 : String := "FollowedLawsModel"
def TX8 : u_T := fun k => match k with
  | _ => ("", "", "", false)
def tyX8 : Nat → FieldType := fun k => match k with
  | _ => .int
abbrev wsX80 : List Cond := u_ws RX8 TX8 0
theorem nmX8 : ∀ a, a < 0 → ∀ b, b < 0 → a ≠ b → (TX8 a).2.1 ≠ (TX8 b).2.1 := by decide +kernel
theorem tyX8_ok : ∀ k, k < 0 → parseFieldDescriptor (TX8 k).2.2.1 = some (tyX8 k) := by decide +kernel
def RJx145de : String := "java/io/Serializable"
def TJx145de : u_T := fun k => match k with
  | _ => ("", "", "", false)
def tyJx145de : Nat → FieldType := fun k => match k with
  | _ => .int
abbrev wsJx145de0 : List Cond := u_ws RJx145de TJx145de 0
theorem nmJx145de : ∀ a, a < 0 → ∀ b, b < 0 → a ≠ b → (TJx145de a).2.1 ≠ (TJx145de b).2.1 := by decide +kernel
theorem tyJx145de_ok : ∀ k, k < 0 → parseFieldDescriptor (TJx145de k).2.2.1 = some (tyJx145de k) := by decide +kernel
def RJ6 : String := "java/lang/Integer"
def TJ6 : u_T := fun k => match k with
  | _ => ("", "", "", false)
def tyJ6 : Nat → FieldType := fun k => match k with
  | _ => .int
abbrev wsJ60 : List Cond := u_ws RJ6 TJ6 0
theorem nmJ6 : ∀ a, a < 0 → ∀ b, b < 0 → a ≠ b → (TJ6 a).2.1 ≠ (TJ6 b).2.1 := by decide +kernel
theorem tyJ6_ok : ∀ k, k < 0 → parseFieldDescriptor (TJ6 k).2.2.1 = some (tyJ6 k) := by decide +kernel
abbrev cJ6_bitCount_0f7a4 : ByteArray := prog_15_method_49_code
def yJ6_bitCount_0f7a4 : MethodName := ⟨RJ6, "bitCount", "(I)I"⟩
def RJ13 : String := "java/lang/Long"
def TJ13 : u_T := fun k => match k with
  | _ => ("", "", "", false)
def tyJ13 : Nat → FieldType := fun k => match k with
  | _ => .int
abbrev wsJ130 : List Cond := u_ws RJ13 TJ13 0
theorem nmJ13 : ∀ a, a < 0 → ∀ b, b < 0 → a ≠ b → (TJ13 a).2.1 ≠ (TJ13 b).2.1 := by decide +kernel
theorem tyJ13_ok : ∀ k, k < 0 → parseFieldDescriptor (TJ13 k).2.2.1 = some (tyJ13 k) := by decide +kernel
abbrev cJ13_bitCount_95d88 : ByteArray := prog_16_method_50_code
def yJ13_bitCount_95d88 : MethodName := ⟨RJ13, "bitCount", "(J)I"⟩
def RJ9 : String := "java/lang/Math"
def TJ9 : u_T := fun k => match k with
  | _ => ("", "", "", false)
def tyJ9 : Nat → FieldType := fun k => match k with
  | _ => .int
abbrev wsJ90 : List Cond := u_ws RJ9 TJ9 0
theorem nmJ9 : ∀ a, a < 0 → ∀ b, b < 0 → a ≠ b → (TJ9 a).2.1 ≠ (TJ9 b).2.1 := by decide +kernel
theorem tyJ9_ok : ∀ k, k < 0 → parseFieldDescriptor (TJ9 k).2.2.1 = some (tyJ9 k) := by decide +kernel
abbrev cJ9_max_7cf53 : ByteArray := prog_17_method_65_code
def yJ9_max_7cf53 : MethodName := ⟨RJ9, "max", "(II)I"⟩
abbrev cJ9_min_7cf53 : ByteArray := prog_17_method_69_code
def yJ9_min_7cf53 : MethodName := ⟨RJ9, "min", "(II)I"⟩
def RJ0 : String := "java/lang/String"
def TJ0 : u_T := fun k => match k with
  | _ => ("", "", "", false)
def tyJ0 : Nat → FieldType := fun k => match k with
  | _ => .int
abbrev wsJ00 : List Cond := u_ws RJ0 TJ0 0
theorem nmJ0 : ∀ a, a < 0 → ∀ b, b < 0 → a ≠ b → (TJ0 a).2.1 ≠ (TJ0 b).2.1 := by decide +kernel
theorem tyJ0_ok : ∀ k, k < 0 → parseFieldDescriptor (TJ0 k).2.2.1 = some (tyJ0 k) := by decide +kernel
def RJ7 : String := "java/util/Arrays"
def TJ7 : u_T := fun k => match k with
  | _ => ("", "", "", false)
def tyJ7 : Nat → FieldType := fun k => match k with
  | _ => .int
abbrev wsJ70 : List Cond := u_ws RJ7 TJ7 0
theorem nmJ7 : ∀ a, a < 0 → ∀ b, b < 0 → a ≠ b → (TJ7 a).2.1 ≠ (TJ7 b).2.1 := by decide +kernel
theorem tyJ7_ok : ∀ k, k < 0 → parseFieldDescriptor (TJ7 k).2.2.1 = some (tyJ7 k) := by decide +kernel
abbrev cJ7_fill_53178 : ByteArray := prog_21_method_103_code
def yJ7_fill_53178 : MethodName := ⟨RJ7, "fill", "([II)V"⟩
def RL : String := "FollowedLawsLaw"
abbrev cL_cell : ByteArray := method_2_code
def yL_cell : MethodName := ⟨RL, "cell", "([II)I"⟩
abbrev cL_low : ByteArray := method_3_code
def yL_low : MethodName := ⟨RL, "low", "(II)I"⟩
abbrev cL_told : ByteArray := method_4_code
def yL_told : MethodName := ⟨RL, "told", "(LFollowedLaws;)J"⟩
abbrev cL_part : ByteArray := method_5_code
def yL_part : MethodName := ⟨RL, "part", "(I)I"⟩
abbrev cL_acts : ByteArray := method_6_code
def yL_acts : MethodName := ⟨RL, "acts", "(LFollowedLaws;II)I"⟩
abbrev cL_holds : ByteArray := method_7_code
def yL_holds : MethodName := ⟨RL, "holds", "(LFollowedLaws;)Z"⟩
abbrev cL_law : ByteArray := code
def yL_law : MethodName := ⟨RL, "law", "([I)Z"⟩
abbrev vwCl : List vw_C := [(RX2, TX2, 1), (RX3, TX3, 3), (RX4, TX4, 3), (RX5, TX5, 9), (RX6, TX6, 2), (RX7, TX7, 8)]
