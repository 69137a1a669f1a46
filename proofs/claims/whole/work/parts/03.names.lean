/-! ===== BEGIN printed: names, fields, word lists, decode rows ===== -/
def RX0 : String := "RelationRows"
def TX0 : u_T := fun k => match k with
  | 0 => ("RelationRows", "things", "I", true)
  | 1 => ("RelationRows", "allThings", "J", true)
  | 2 => ("RelationRows", "kinds", "[I", true)
  | 3 => ("RelationRows", "tallies", "[I", true)
  | 4 => ("RelationRows", "relations", "I", false)
  | 5 => ("RelationRows", "forms", "[I", true)
  | 6 => ("RelationRows", "firsts", "[I", true)
  | 7 => ("RelationRows", "seconds", "[I", true)
  | 8 => ("RelationRows", "rows", "[[J", true)
  | 9 => ("RelationRows", "settled", "I", false)
  | 10 => ("RelationRows", "pushedCount", "I", false)
  | 11 => ("RelationRows", "pushedFirsts", "[I", true)
  | 12 => ("RelationRows", "pushedSeconds", "[I", true)
  | _ => ("RelationRows", "steps", "[I", true)
def tyX0 : Nat → FieldType := fun k => match k with
  | 0 => .int
  | 1 => .long
  | 2 => .array .int
  | 3 => .array .int
  | 4 => .int
  | 5 => .array .int
  | 6 => .array .int
  | 7 => .array .int
  | 8 => .array (.array .long)
  | 9 => .int
  | 10 => .int
  | 11 => .array .int
  | 12 => .array .int
  | _ => .array .int
abbrev wsX00 : List Cond := u_ws RX0 TX0 14
theorem nmX0 : ∀ a, a < 14 → ∀ b, b < 14 → a ≠ b → (TX0 a).2.1 ≠ (TX0 b).2.1 := by decide +kernel
theorem tyX0_ok : ∀ k, k < 14 → parseFieldDescriptor (TX0 k).2.2.1 = some (tyX0 k) := by decide +kernel
abbrev cX0_init : ByteArray := prog_1_method_1_code
def yX0_init : MethodName := ⟨RX0, "<init>", "(I)V"⟩
abbrev cX0_clear : ByteArray := prog_1_method_2_code
def yX0_clear : MethodName := ⟨RX0, "clear", "()I"⟩
abbrev cX0_kind : ByteArray := prog_1_method_3_code
def yX0_kind : MethodName := ⟨RX0, "kind", "(II)I"⟩
abbrev cX0_relation : ByteArray := prog_1_method_4_code
def yX0_relation : MethodName := ⟨RX0, "relation", "(III)I"⟩
abbrev cX0_condition : ByteArray := prog_1_method_5_code
def yX0_condition : MethodName := ⟨RX0, "condition", "(III)I"⟩
abbrev cX0_set : ByteArray := prog_1_method_6_code
def yX0_set : MethodName := ⟨RX0, "set", "(III)I"⟩
abbrev cX0_drop : ByteArray := prog_1_method_7_code
def yX0_drop : MethodName := ⟨RX0, "drop", "(III)Z"⟩
abbrev cX0_empty : ByteArray := prog_1_method_8_code
def yX0_empty : MethodName := ⟨RX0, "empty", "(I)I"⟩
abbrev cX0_pushed : ByteArray := prog_1_method_9_code
def yX0_pushed : MethodName := ⟨RX0, "pushed", "(II)I"⟩
abbrev cX0_has : ByteArray := prog_1_method_10_code
def yX0_has : MethodName := ⟨RX0, "has", "(III)Z"⟩
abbrev cX0_next : ByteArray := prog_1_method_11_code
def yX0_next : MethodName := ⟨RX0, "next", "(III)I"⟩
abbrev cX0_back : ByteArray := prog_1_method_12_code
def yX0_back : MethodName := ⟨RX0, "back", "(III)I"⟩
abbrev cX0_count : ByteArray := prog_1_method_13_code
def yX0_count : MethodName := ⟨RX0, "count", "(I)I"⟩
abbrev cX0_length : ByteArray := prog_1_method_14_code
def yX0_length : MethodName := ⟨RX0, "length", "(III)I"⟩
abbrev cX0_route : ByteArray := prog_1_method_15_code
def yX0_route : MethodName := ⟨RX0, "route", "(IIII)I"⟩
abbrev cX0_leader : ByteArray := prog_1_method_16_code
def yX0_leader : MethodName := ⟨RX0, "leader", "(II)I"⟩
abbrev cX0_differ : ByteArray := prog_1_method_17_code
def yX0_differ : MethodName := ⟨RX0, "differ", "(II)I"⟩
abbrev cX0_tally : ByteArray := prog_1_method_18_code
def yX0_tally : MethodName := ⟨RX0, "tally", "(II)I"⟩
abbrev cX0_of : ByteArray := prog_1_method_19_code
def yX0_of : MethodName := ⟨RX0, "of", "(I)I"⟩
abbrev cX0_told : ByteArray := prog_1_method_20_code
def yX0_told : MethodName := ⟨RX0, "told", "(II)I"⟩
abbrev cX0_isThing : ByteArray := prog_1_method_21_code
def yX0_isThing : MethodName := ⟨RX0, "isThing", "(I)Z"⟩
abbrev cX0_needThing : ByteArray := prog_1_method_22_code
def yX0_needThing : MethodName := ⟨RX0, "needThing", "(I)V"⟩
abbrev cX0_needRelation : ByteArray := prog_1_method_23_code
def yX0_needRelation : MethodName := ⟨RX0, "needRelation", "(I)V"⟩
abbrev cX0_needKindOrNone : ByteArray := prog_1_method_24_code
def yX0_needKindOrNone : MethodName := ⟨RX0, "needKindOrNone", "(I)V"⟩
abbrev cX0_needRoomForRelation : ByteArray := prog_1_method_25_code
def yX0_needRoomForRelation : MethodName := ⟨RX0, "needRoomForRelation", "()V"⟩
abbrev cX0_needForm : ByteArray := prog_1_method_26_code
def yX0_needForm : MethodName := ⟨RX0, "needForm", "(I)V"⟩
abbrev cX0_needSettable : ByteArray := prog_1_method_27_code
def yX0_needSettable : MethodName := ⟨RX0, "needSettable", "(III)V"⟩
abbrev cX0_isOfKind : ByteArray := prog_1_method_28_code
def yX0_isOfKind : MethodName := ⟨RX0, "isOfKind", "(II)Z"⟩
abbrev cX0_isByCondition : ByteArray := prog_1_method_29_code
def yX0_isByCondition : MethodName := ⟨RX0, "isByCondition", "(I)Z"⟩
abbrev cX0_takesTwo : ByteArray := prog_1_method_30_code
def yX0_takesTwo : MethodName := ⟨RX0, "takesTwo", "(I)Z"⟩
abbrev cX0_addRelation : ByteArray := prog_1_method_31_code
def yX0_addRelation : MethodName := ⟨RX0, "addRelation", "(III)I"⟩
abbrev cX0_startRows : ByteArray := prog_1_method_32_code
def yX0_startRows : MethodName := ⟨RX0, "startRows", "(I)V"⟩
abbrev cX0_bit : ByteArray := prog_1_method_33_code
def yX0_bit : MethodName := ⟨RX0, "bit", "(I)J"⟩
abbrev cX0_holds : ByteArray := prog_1_method_34_code
def yX0_holds : MethodName := ⟨RX0, "holds", "(III)Z"⟩
abbrev cX0_column : ByteArray := prog_1_method_35_code
def yX0_column : MethodName := ⟨RX0, "column", "(II)J"⟩
abbrev cX0_pairsOf : ByteArray := prog_1_method_36_code
def yX0_pairsOf : MethodName := ⟨RX0, "pairsOf", "(I)I"⟩
abbrev cX0_pick : ByteArray := prog_1_method_37_code
def yX0_pick : MethodName := ⟨RX0, "pick", "(JI)I"⟩
abbrev cX0_pushOut : ByteArray := prog_1_method_38_code
def yX0_pushOut : MethodName := ⟨RX0, "pushOut", "(III)V"⟩
abbrev cX0_pushRow : ByteArray := prog_1_method_39_code
def yX0_pushRow : MethodName := ⟨RX0, "pushRow", "(II)V"⟩
abbrev cX0_pushColumn : ByteArray := prog_1_method_40_code
def yX0_pushColumn : MethodName := ⟨RX0, "pushColumn", "(II)V"⟩
abbrev cX0_pushPair : ByteArray := prog_1_method_41_code
def yX0_pushPair : MethodName := ⟨RX0, "pushPair", "(III)V"⟩
abbrev cX0_goesBothWays : ByteArray := prog_1_method_42_code
def yX0_goesBothWays : MethodName := ⟨RX0, "goesBothWays", "(I)Z"⟩
abbrev cX0_join : ByteArray := prog_1_method_43_code
def yX0_join : MethodName := ⟨RX0, "join", "(III)V"⟩
abbrev cX0_part : ByteArray := prog_1_method_44_code
def yX0_part : MethodName := ⟨RX0, "part", "(III)V"⟩
abbrev cX0_makeClass : ByteArray := prog_1_method_45_code
def yX0_makeClass : MethodName := ⟨RX0, "makeClass", "(IJ)V"⟩
abbrev cX0_makeStale : ByteArray := prog_1_method_46_code
def yX0_makeStale : MethodName := ⟨RX0, "makeStale", "(I)V"⟩
abbrev cX0_settle : ByteArray := prog_1_method_47_code
def yX0_settle : MethodName := ⟨RX0, "settle", "(I)V"⟩
abbrev cX0_workOut : ByteArray := prog_1_method_48_code
def yX0_workOut : MethodName := ⟨RX0, "workOut", "(I)V"⟩
abbrev cX0_rowBy : ByteArray := prog_1_method_49_code
def yX0_rowBy : MethodName := ⟨RX0, "rowBy", "(IIII)J"⟩
abbrev cX0_rowThrough : ByteArray := prog_1_method_50_code
def yX0_rowThrough : MethodName := ⟨RX0, "rowThrough", "(III)J"⟩
abbrev cX0_workOutFar : ByteArray := prog_1_method_51_code
def yX0_workOutFar : MethodName := ⟨RX0, "workOutFar", "(I)V"⟩
abbrev cX0_measureSteps : ByteArray := prog_1_method_52_code
def yX0_measureSteps : MethodName := ⟨RX0, "measureSteps", "(II)V"⟩
abbrev cX0_stepNearer : ByteArray := prog_1_method_53_code
def yX0_stepNearer : MethodName := ⟨RX0, "stepNearer", "(II)I"⟩
def RX1 : String := "RelationRowsModel"
def TX1 : u_T := fun k => match k with
  | 0 => ("RelationRowsModel", "code", "I", false)
  | 1 => ("RelationRowsModel", "things", "I", true)
  | 2 => ("RelationRowsModel", "kinds", "[I", true)
  | 3 => ("RelationRowsModel", "relations", "I", false)
  | 4 => ("RelationRowsModel", "form", "[I", true)
  | 5 => ("RelationRowsModel", "one", "[I", true)
  | 6 => ("RelationRowsModel", "two", "[I", true)
  | 7 => ("RelationRowsModel", "pairs", "[Z", true)
  | 8 => ("RelationRowsModel", "pushes", "I", false)
  | 9 => ("RelationRowsModel", "pushedFirst", "[I", true)
  | 10 => ("RelationRowsModel", "pushedSecond", "[I", true)
  | 11 => ("RelationRowsModel", "tallies", "[I", true)
  | 12 => ("RelationRowsModel", "joined", "[Z", true)
  | _ => ("RelationRowsModel", "steps", "[I", true)
def tyX1 : Nat → FieldType := fun k => match k with
  | 0 => .int
  | 1 => .int
  | 2 => .array .int
  | 3 => .int
  | 4 => .array .int
  | 5 => .array .int
  | 6 => .array .int
  | 7 => .array .boolean
  | 8 => .int
  | 9 => .array .int
  | 10 => .array .int
  | 11 => .array .int
  | 12 => .array .boolean
  | _ => .array .int
abbrev wsX10 : List Cond := u_ws RX1 TX1 14
theorem nmX1 : ∀ a, a < 14 → ∀ b, b < 14 → a ≠ b → (TX1 a).2.1 ≠ (TX1 b).2.1 := by decide +kernel
theorem tyX1_ok : ∀ k, k < 14 → parseFieldDescriptor (TX1 k).2.2.1 = some (tyX1 k) := by decide +kernel
abbrev cX1_init : ByteArray := prog_3_method_1_code
def yX1_init : MethodName := ⟨RX1, "<init>", "(I)V"⟩
abbrev cX1_thrown : ByteArray := prog_3_method_2_code
def yX1_thrown : MethodName := ⟨RX1, "thrown", "()I"⟩
abbrev cX1_begin : ByteArray := prog_3_method_3_code
def yX1_begin : MethodName := ⟨RX1, "begin", "()V"⟩
abbrev cX1_clear : ByteArray := prog_3_method_4_code
def yX1_clear : MethodName := ⟨RX1, "clear", "()I"⟩
abbrev cX1_isGood : ByteArray := prog_3_method_5_code
def yX1_isGood : MethodName := ⟨RX1, "isGood", "(I)Z"⟩
abbrev cX1_isIn : ByteArray := prog_3_method_6_code
def yX1_isIn : MethodName := ⟨RX1, "isIn", "(III)Z"⟩
abbrev cX1_isThing : ByteArray := prog_3_method_7_code
def yX1_isThing : MethodName := ⟨RX1, "isThing", "(I)Z"⟩
abbrev cX1_isRelation : ByteArray := prog_3_method_8_code
def yX1_isRelation : MethodName := ⟨RX1, "isRelation", "(I)Z"⟩
abbrev cX1_kind : ByteArray := prog_3_method_9_code
def yX1_kind : MethodName := ⟨RX1, "kind", "(II)I"⟩
abbrev cX1_at : ByteArray := prog_3_method_10_code
def yX1_at : MethodName := ⟨RX1, "at", "(III)I"⟩
abbrev cX1_make : ByteArray := prog_3_method_11_code
def yX1_make : MethodName := ⟨RX1, "make", "(III)I"⟩
abbrev cX1_relation : ByteArray := prog_3_method_12_code
def yX1_relation : MethodName := ⟨RX1, "relation", "(III)I"⟩
abbrev cX1_condition : ByteArray := prog_3_method_13_code
def yX1_condition : MethodName := ⟨RX1, "condition", "(III)I"⟩
abbrev cX1_work : ByteArray := prog_3_method_14_code
def yX1_work : MethodName := ⟨RX1, "work", "(I)V"⟩
abbrev cX1_far : ByteArray := prog_3_method_15_code
def yX1_far : MethodName := ⟨RX1, "far", "(I)V"⟩
abbrev cX1_learn : ByteArray := prog_3_method_16_code
def yX1_learn : MethodName := ⟨RX1, "learn", "(I)V"⟩
abbrev cX1_isOf : ByteArray := prog_3_method_17_code
def yX1_isOf : MethodName := ⟨RX1, "isOf", "(II)Z"⟩
abbrev cX1_whyNot : ByteArray := prog_3_method_18_code
def yX1_whyNot : MethodName := ⟨RX1, "whyNot", "(III)I"⟩
abbrev cX1_put : ByteArray := prog_3_method_19_code
def yX1_put : MethodName := ⟨RX1, "put", "(IIIZ)V"⟩
abbrev cX1_push : ByteArray := prog_3_method_20_code
def yX1_push : MethodName := ⟨RX1, "push", "(III)V"⟩
abbrev cX1_pushFrom : ByteArray := prog_3_method_21_code
def yX1_pushFrom : MethodName := ⟨RX1, "pushFrom", "(II)V"⟩
abbrev cX1_pushTo : ByteArray := prog_3_method_22_code
def yX1_pushTo : MethodName := ⟨RX1, "pushTo", "(II)V"⟩
abbrev cX1_join : ByteArray := prog_3_method_23_code
def yX1_join : MethodName := ⟨RX1, "join", "(III)V"⟩
abbrev cX1_set : ByteArray := prog_3_method_24_code
def yX1_set : MethodName := ⟨RX1, "set", "(III)I"⟩
abbrev cX1_part : ByteArray := prog_3_method_25_code
def yX1_part : MethodName := ⟨RX1, "part", "(II)V"⟩
abbrev cX1_drop : ByteArray := prog_3_method_26_code
def yX1_drop : MethodName := ⟨RX1, "drop", "(III)Z"⟩
abbrev cX1_countOf : ByteArray := prog_3_method_27_code
def yX1_countOf : MethodName := ⟨RX1, "countOf", "(I)I"⟩
abbrev cX1_empty : ByteArray := prog_3_method_28_code
def yX1_empty : MethodName := ⟨RX1, "empty", "(I)I"⟩
abbrev cX1_pushed : ByteArray := prog_3_method_29_code
def yX1_pushed : MethodName := ⟨RX1, "pushed", "(II)I"⟩
abbrev cX1_has : ByteArray := prog_3_method_30_code
def yX1_has : MethodName := ⟨RX1, "has", "(III)Z"⟩
abbrev cX1_beside : ByteArray := prog_3_method_31_code
def yX1_beside : MethodName := ⟨RX1, "beside", "(IIIZ)I"⟩
abbrev cX1_besideOr : ByteArray := prog_3_method_32_code
def yX1_besideOr : MethodName := ⟨RX1, "besideOr", "(IIIZ)I"⟩
abbrev cX1_next : ByteArray := prog_3_method_33_code
def yX1_next : MethodName := ⟨RX1, "next", "(III)I"⟩
abbrev cX1_back : ByteArray := prog_3_method_34_code
def yX1_back : MethodName := ⟨RX1, "back", "(III)I"⟩
abbrev cX1_count : ByteArray := prog_3_method_35_code
def yX1_count : MethodName := ⟨RX1, "count", "(I)I"⟩
abbrev cX1_measure : ByteArray := prog_3_method_36_code
def yX1_measure : MethodName := ⟨RX1, "measure", "(II)V"⟩
abbrev cX1_length : ByteArray := prog_3_method_37_code
def yX1_length : MethodName := ⟨RX1, "length", "(III)I"⟩
abbrev cX1_route : ByteArray := prog_3_method_38_code
def yX1_route : MethodName := ⟨RX1, "route", "(IIII)I"⟩
abbrev cX1_leader : ByteArray := prog_3_method_39_code
def yX1_leader : MethodName := ⟨RX1, "leader", "(II)I"⟩
abbrev cX1_differ : ByteArray := prog_3_method_40_code
def yX1_differ : MethodName := ⟨RX1, "differ", "(II)I"⟩
abbrev cX1_tally : ByteArray := prog_3_method_41_code
def yX1_tally : MethodName := ⟨RX1, "tally", "(II)I"⟩
abbrev cX1_of : ByteArray := prog_3_method_42_code
def yX1_of : MethodName := ⟨RX1, "of", "(I)I"⟩
abbrev cX1_told : ByteArray := prog_3_method_43_code
def yX1_told : MethodName := ⟨RX1, "told", "(II)I"⟩
def RJx145de : String := "java/io/Serializable"
def TJx145de : u_T := fun k => match k with
  | _ => ("", "", "", false)
def tyJx145de : Nat → FieldType := fun k => match k with
  | _ => .int
abbrev wsJx145de0 : List Cond := u_ws RJx145de TJx145de 0
theorem nmJx145de : ∀ a, a < 0 → ∀ b, b < 0 → a ≠ b → (TJx145de a).2.1 ≠ (TJx145de b).2.1 := by decide +kernel
theorem tyJx145de_ok : ∀ k, k < 0 → parseFieldDescriptor (TJx145de k).2.2.1 = some (tyJx145de k) := by decide +kernel
def RJx00060 : String := "java/lang/ArrayIndexOutOfBoundsException"
def TJx00060 : u_T := fun k => match k with
  | 0 => ("java/lang/Throwable", "backtrace", "Ljava/lang/Object;", false)
  | 1 => ("java/lang/Throwable", "detailMessage", "Ljava/lang/String;", false)
  | 2 => ("java/lang/Throwable", "cause", "Ljava/lang/Throwable;", false)
  | 3 => ("java/lang/Throwable", "stackTrace", "[Ljava/lang/StackTraceElement;", false)
  | 4 => ("java/lang/Throwable", "depth", "I", false)
  | _ => ("java/lang/Throwable", "suppressedExceptions", "Ljava/util/List;", false)
def tyJx00060 : Nat → FieldType := fun k => match k with
  | 0 => .object "java/lang/Object"
  | 1 => .object "java/lang/String"
  | 2 => .object "java/lang/Throwable"
  | 3 => .array (.object "java/lang/StackTraceElement")
  | 4 => .int
  | _ => .object "java/util/List"
abbrev wsJx000600 : List Cond := u_ws RJx00060 TJx00060 6
theorem nmJx00060 : ∀ a, a < 6 → ∀ b, b < 6 → a ≠ b → (TJx00060 a).2.1 ≠ (TJx00060 b).2.1 := by decide +kernel
theorem tyJx00060_ok : ∀ k, k < 6 → parseFieldDescriptor (TJx00060 k).2.2.1 = some (tyJx00060 k) := by decide +kernel
abbrev cJx00060_init_a7421 : ByteArray := prog_5_method_2_code
def yJx00060_init_a7421 : MethodName := ⟨RJx00060, "<init>", "(Ljava/lang/String;)V"⟩
def RJxb160c : String := "java/lang/Comparable"
def TJxb160c : u_T := fun k => match k with
  | _ => ("", "", "", false)
def tyJxb160c : Nat → FieldType := fun k => match k with
  | _ => .int
abbrev wsJxb160c0 : List Cond := u_ws RJxb160c TJxb160c 0
theorem nmJxb160c : ∀ a, a < 0 → ∀ b, b < 0 → a ≠ b → (TJxb160c a).2.1 ≠ (TJxb160c b).2.1 := by decide +kernel
theorem tyJxb160c_ok : ∀ k, k < 0 → parseFieldDescriptor (TJxb160c k).2.2.1 = some (tyJxb160c k) := by decide +kernel
def RJ6 : String := "java/lang/Integer"
def TJ6 : u_T := fun k => match k with
  | _ => ("", "", "", false)
def tyJ6 : Nat → FieldType := fun k => match k with
  | _ => .int
abbrev wsJ60 : List Cond := u_ws RJ6 TJ6 0
theorem nmJ6 : ∀ a, a < 0 → ∀ b, b < 0 → a ≠ b → (TJ6 a).2.1 ≠ (TJ6 b).2.1 := by decide +kernel
theorem tyJ6_ok : ∀ k, k < 0 → parseFieldDescriptor (TJ6 k).2.2.1 = some (tyJ6 k) := by decide +kernel
abbrev cJ6_numberOfTrailingZeros_0f7a4 : ByteArray := prog_11_method_48_code
def yJ6_numberOfTrailingZeros_0f7a4 : MethodName := ⟨RJ6, "numberOfTrailingZeros", "(I)I"⟩
def RJ13 : String := "java/lang/Long"
def TJ13 : u_T := fun k => match k with
  | _ => ("", "", "", false)
def tyJ13 : Nat → FieldType := fun k => match k with
  | _ => .int
abbrev wsJ130 : List Cond := u_ws RJ13 TJ13 0
theorem nmJ13 : ∀ a, a < 0 → ∀ b, b < 0 → a ≠ b → (TJ13 a).2.1 ≠ (TJ13 b).2.1 := by decide +kernel
theorem tyJ13_ok : ∀ k, k < 0 → parseFieldDescriptor (TJ13 k).2.2.1 = some (tyJ13 k) := by decide +kernel
abbrev cJ13_numberOfTrailingZeros_95d88 : ByteArray := prog_12_method_49_code
def yJ13_numberOfTrailingZeros_95d88 : MethodName := ⟨RJ13, "numberOfTrailingZeros", "(J)I"⟩
abbrev cJ13_bitCount_95d88 : ByteArray := prog_12_method_50_code
def yJ13_bitCount_95d88 : MethodName := ⟨RJ13, "bitCount", "(J)I"⟩
def RJ9 : String := "java/lang/Math"
def TJ9 : u_T := fun k => match k with
  | _ => ("", "", "", false)
def tyJ9 : Nat → FieldType := fun k => match k with
  | _ => .int
abbrev wsJ90 : List Cond := u_ws RJ9 TJ9 0
theorem nmJ9 : ∀ a, a < 0 → ∀ b, b < 0 → a ≠ b → (TJ9 a).2.1 ≠ (TJ9 b).2.1 := by decide +kernel
theorem tyJ9_ok : ∀ k, k < 0 → parseFieldDescriptor (TJ9 k).2.2.1 = some (tyJ9 k) := by decide +kernel
abbrev cJ9_max_7cf53 : ByteArray := prog_13_method_65_code
def yJ9_max_7cf53 : MethodName := ⟨RJ9, "max", "(II)I"⟩
abbrev cJ9_min_7cf53 : ByteArray := prog_13_method_69_code
def yJ9_min_7cf53 : MethodName := ⟨RJ9, "min", "(II)I"⟩
def RJxd2413 : String := "java/lang/Number"
def TJxd2413 : u_T := fun k => match k with
  | _ => ("", "", "", false)
def tyJxd2413 : Nat → FieldType := fun k => match k with
  | _ => .int
abbrev wsJxd24130 : List Cond := u_ws RJxd2413 TJxd2413 0
theorem nmJxd2413 : ∀ a, a < 0 → ∀ b, b < 0 → a ≠ b → (TJxd2413 a).2.1 ≠ (TJxd2413 b).2.1 := by decide +kernel
theorem tyJxd2413_ok : ∀ k, k < 0 → parseFieldDescriptor (TJxd2413 k).2.2.1 = some (tyJxd2413 k) := by decide +kernel
def RJ0 : String := "java/lang/String"
def TJ0 : u_T := fun k => match k with
  | 0 => ("java/lang/String", "value", "[B", true)
  | _ => ("java/lang/String", "coder", "B", true)
def tyJ0 : Nat → FieldType := fun k => match k with
  | 0 => .array .byte
  | _ => .byte
abbrev wsJ00 : List Cond := u_ws RJ0 TJ0 2
theorem nmJ0 : ∀ a, a < 2 → ∀ b, b < 2 → a ≠ b → (TJ0 a).2.1 ≠ (TJ0 b).2.1 := by decide +kernel
theorem tyJ0_ok : ∀ k, k < 2 → parseFieldDescriptor (TJ0 k).2.2.1 = some (tyJ0 k) := by decide +kernel
def RJ10 : String := "java/lang/System"
def TJ10 : u_T := fun k => match k with
  | _ => ("", "", "", false)
def tyJ10 : Nat → FieldType := fun k => match k with
  | _ => .int
abbrev wsJ100 : List Cond := u_ws RJ10 TJ10 0
theorem nmJ10 : ∀ a, a < 0 → ∀ b, b < 0 → a ≠ b → (TJ10 a).2.1 ≠ (TJ10 b).2.1 := by decide +kernel
theorem tyJ10_ok : ∀ k, k < 0 → parseFieldDescriptor (TJ10 k).2.2.1 = some (tyJ10 k) := by decide +kernel
def RJxfd54e : String := "java/lang/constant/Constable"
def TJxfd54e : u_T := fun k => match k with
  | _ => ("", "", "", false)
def tyJxfd54e : Nat → FieldType := fun k => match k with
  | _ => .int
abbrev wsJxfd54e0 : List Cond := u_ws RJxfd54e TJxfd54e 0
theorem nmJxfd54e : ∀ a, a < 0 → ∀ b, b < 0 → a ≠ b → (TJxfd54e a).2.1 ≠ (TJxfd54e b).2.1 := by decide +kernel
theorem tyJxfd54e_ok : ∀ k, k < 0 → parseFieldDescriptor (TJxfd54e k).2.2.1 = some (tyJxfd54e k) := by decide +kernel
def RJx3cf43 : String := "java/lang/constant/ConstantDesc"
def TJx3cf43 : u_T := fun k => match k with
  | _ => ("", "", "", false)
def tyJx3cf43 : Nat → FieldType := fun k => match k with
  | _ => .int
abbrev wsJx3cf430 : List Cond := u_ws RJx3cf43 TJx3cf43 0
theorem nmJx3cf43 : ∀ a, a < 0 → ∀ b, b < 0 → a ≠ b → (TJx3cf43 a).2.1 ≠ (TJx3cf43 b).2.1 := by decide +kernel
theorem tyJx3cf43_ok : ∀ k, k < 0 → parseFieldDescriptor (TJx3cf43 k).2.2.1 = some (tyJx3cf43 k) := by decide +kernel
def RJ7 : String := "java/util/Arrays"
def TJ7 : u_T := fun k => match k with
  | _ => ("", "", "", false)
def tyJ7 : Nat → FieldType := fun k => match k with
  | _ => .int
abbrev wsJ70 : List Cond := u_ws RJ7 TJ7 0
theorem nmJ7 : ∀ a, a < 0 → ∀ b, b < 0 → a ≠ b → (TJ7 a).2.1 ≠ (TJ7 b).2.1 := by decide +kernel
theorem tyJ7_ok : ∀ k, k < 0 → parseFieldDescriptor (TJ7 k).2.2.1 = some (tyJ7 k) := by decide +kernel
abbrev cJ7_fill_53178 : ByteArray := prog_21_method_103_code
def yJ7_fill_53178 : MethodName := ⟨RJ7, "fill", "([II)V"⟩
def RL : String := "RelationRowsLaw"
abbrev cL_cell : ByteArray := method_2_code
def yL_cell : MethodName := ⟨RL, "cell", "([II)I"⟩
abbrev cL_kind : ByteArray := method_3_code
def yL_kind : MethodName := ⟨RL, "kind", "(LRelationRows;II[J)I"⟩
abbrev cL_relation : ByteArray := method_4_code
def yL_relation : MethodName := ⟨RL, "relation", "(LRelationRows;III[J)I"⟩
abbrev cL_condition : ByteArray := method_5_code
def yL_condition : MethodName := ⟨RL, "condition", "(LRelationRows;III[J)I"⟩
abbrev cL_set : ByteArray := method_6_code
def yL_set : MethodName := ⟨RL, "set", "(LRelationRows;III[J)I"⟩
abbrev cL_drop : ByteArray := method_7_code
def yL_drop : MethodName := ⟨RL, "drop", "(LRelationRows;III[J)I"⟩
abbrev cL_empty : ByteArray := method_8_code
def yL_empty : MethodName := ⟨RL, "empty", "(LRelationRows;I[J)I"⟩
abbrev cL_pushed : ByteArray := method_9_code
def yL_pushed : MethodName := ⟨RL, "pushed", "(LRelationRows;II[J)I"⟩
abbrev cL_has : ByteArray := method_10_code
def yL_has : MethodName := ⟨RL, "has", "(LRelationRows;III[J)I"⟩
abbrev cL_next : ByteArray := method_11_code
def yL_next : MethodName := ⟨RL, "next", "(LRelationRows;III[J)I"⟩
abbrev cL_back : ByteArray := method_12_code
def yL_back : MethodName := ⟨RL, "back", "(LRelationRows;III[J)I"⟩
abbrev cL_count : ByteArray := method_13_code
def yL_count : MethodName := ⟨RL, "count", "(LRelationRows;I[J)I"⟩
abbrev cL_length : ByteArray := method_14_code
def yL_length : MethodName := ⟨RL, "length", "(LRelationRows;III[J)I"⟩
abbrev cL_route : ByteArray := method_15_code
def yL_route : MethodName := ⟨RL, "route", "(LRelationRows;IIII[J)I"⟩
abbrev cL_leader : ByteArray := method_16_code
def yL_leader : MethodName := ⟨RL, "leader", "(LRelationRows;II[J)I"⟩
abbrev cL_differ : ByteArray := method_17_code
def yL_differ : MethodName := ⟨RL, "differ", "(LRelationRows;II[J)I"⟩
abbrev cL_tally : ByteArray := method_18_code
def yL_tally : MethodName := ⟨RL, "tally", "(LRelationRows;II[J)I"⟩
abbrev cL_of : ByteArray := method_19_code
def yL_of : MethodName := ⟨RL, "of", "(LRelationRows;I[J)I"⟩
abbrev cL_told : ByteArray := method_20_code
def yL_told : MethodName := ⟨RL, "told", "(LRelationRows;II[J)I"⟩
abbrev cL_law : ByteArray := code
def yL_law : MethodName := ⟨RL, "law", "([I)Z"⟩
abbrev vwCl : List vw_C := [(RJ0, TJ0, 2), (RJx00060, TJx00060, 6), (RX0, TX0, 14), (RX1, TX1, 14)]
