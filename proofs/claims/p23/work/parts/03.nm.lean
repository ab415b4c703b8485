/-! ===== BEGIN printed: names, fields, word lists, decode rows ===== -/
def RX0 : String := "LearnedShapes$Misfit"
def TX0 : u_T := fun k => match k with
  | 0 => ("LearnedShapes$Misfit", "reason", "I", false)
  | 1 => ("LearnedShapes$Misfit", "place", "I", false)
  | _ => ("LearnedShapes$Misfit", "nodeNumber", "I", false)
def tyX0 : Nat → FieldType := fun k => match k with
  | 0 => .int
  | 1 => .int
  | _ => .int
abbrev wsX00 : List Cond := u_ws RX0 TX0 3
theorem nmX0 : ∀ a, a < 3 → ∀ b, b < 3 → a ≠ b → (TX0 a).2.1 ≠ (TX0 b).2.1 := by decide +kernel
theorem tyX0_ok : ∀ k, k < 3 → parseFieldDescriptor (TX0 k).2.2.1 = some (tyX0 k) := by decide +kernel
abbrev cX0_init : ByteArray := prog_2_method_1_code
def yX0_init : MethodName := ⟨RX0, "<init>", "()V"⟩
def RX1 : String := "LearnedShapes$Reader"
def TX1 : u_T := fun k => match k with
  | 0 => ("LearnedShapes$Reader", "values", "LLearnedShapes$Tree;", true)
  | 1 => ("LearnedShapes$Reader", "firstWrong", "I", false)
  | 2 => ("LearnedShapes$Reader", "place", "I", false)
  | 3 => ("LearnedShapes$Reader", "state", "I", false)
  | 4 => ("LearnedShapes$Reader", "open", "I", false)
  | 5 => ("LearnedShapes$Reader", "letter", "I", false)
  | _ => ("LearnedShapes$Reader", "run", "I", false)
def tyX1 : Nat → FieldType := fun k => match k with
  | 0 => .object "LearnedShapes$Tree"
  | 1 => .int
  | 2 => .int
  | 3 => .int
  | 4 => .int
  | 5 => .int
  | _ => .int
abbrev wsX10 : List Cond := u_ws RX1 TX1 7
theorem nmX1 : ∀ a, a < 7 → ∀ b, b < 7 → a ≠ b → (TX1 a).2.1 ≠ (TX1 b).2.1 := by decide +kernel
theorem tyX1_ok : ∀ k, k < 7 → parseFieldDescriptor (TX1 k).2.2.1 = some (tyX1 k) := by decide +kernel
abbrev cX1_init : ByteArray := prog_3_method_1_code
def yX1_init : MethodName := ⟨RX1, "<init>", "()V"⟩
abbrev cX1_read : ByteArray := prog_3_method_2_code
def yX1_read : MethodName := ⟨RX1, "read", "([II)Z"⟩
abbrev cX1_take : ByteArray := prog_3_method_3_code
def yX1_take : MethodName := ⟨RX1, "take", "(I)Z"⟩
abbrev cX1_endsNumber : ByteArray := prog_3_method_4_code
def yX1_endsNumber : MethodName := ⟨RX1, "endsNumber", "(I)Z"⟩
abbrev cX1_takePart : ByteArray := prog_3_method_5_code
def yX1_takePart : MethodName := ⟨RX1, "takePart", "(I)Z"⟩
abbrev cX1_takeComma : ByteArray := prog_3_method_6_code
def yX1_takeComma : MethodName := ⟨RX1, "takeComma", "(I)Z"⟩
abbrev cX1_takeValue : ByteArray := prog_3_method_7_code
def yX1_takeValue : MethodName := ⟨RX1, "takeValue", "(I)Z"⟩
abbrev cX1_stateInValue : ByteArray := prog_3_method_8_code
def yX1_stateInValue : MethodName := ⟨RX1, "stateInValue", "(II)I"⟩
abbrev cX1_kindAt : ByteArray := prog_3_method_9_code
def yX1_kindAt : MethodName := ⟨RX1, "kindAt", "(I)I"⟩
abbrev cX1_isDigit : ByteArray := prog_3_method_10_code
def yX1_isDigit : MethodName := ⟨RX1, "isDigit", "(I)Z"⟩
abbrev cX1_takeInWord : ByteArray := prog_3_method_11_code
def yX1_takeInWord : MethodName := ⟨RX1, "takeInWord", "(I)Z"⟩
abbrev cX1_takeInNumber : ByteArray := prog_3_method_12_code
def yX1_takeInNumber : MethodName := ⟨RX1, "takeInNumber", "(I)Z"⟩
abbrev cX1_takePoint : ByteArray := prog_3_method_13_code
def yX1_takePoint : MethodName := ⟨RX1, "takePoint", "()Z"⟩
abbrev cX1_stateBehindValue : ByteArray := prog_3_method_14_code
def yX1_stateBehindValue : MethodName := ⟨RX1, "stateBehindValue", "()I"⟩
abbrev cX1_closeValue : ByteArray := prog_3_method_15_code
def yX1_closeValue : MethodName := ⟨RX1, "closeValue", "()Z"⟩
abbrev cX1_depthOfNext : ByteArray := prog_3_method_16_code
def yX1_depthOfNext : MethodName := ⟨RX1, "depthOfNext", "()I"⟩
def RX2 : String := "LearnedShapes$State"
def TX2 : u_T := fun k => match k with
  | 0 => ("LearnedShapes$State", "first", "LLearnedShapes$Tree;", true)
  | 1 => ("LearnedShapes$State", "second", "LLearnedShapes$Tree;", true)
  | _ => ("LearnedShapes$State", "setting", "I", false)
def tyX2 : Nat → FieldType := fun k => match k with
  | 0 => .object "LearnedShapes$Tree"
  | 1 => .object "LearnedShapes$Tree"
  | _ => .int
abbrev wsX20 : List Cond := u_ws RX2 TX2 3
theorem nmX2 : ∀ a, a < 3 → ∀ b, b < 3 → a ≠ b → (TX2 a).2.1 ≠ (TX2 b).2.1 := by decide +kernel
theorem tyX2_ok : ∀ k, k < 3 → parseFieldDescriptor (TX2 k).2.2.1 = some (tyX2 k) := by decide +kernel
abbrev cX2_init : ByteArray := prog_4_method_1_code
def yX2_init : MethodName := ⟨RX2, "<init>", "()V"⟩
abbrev cX2_tree : ByteArray := prog_4_method_2_code
def yX2_tree : MethodName := ⟨RX2, "tree", "(I)LLearnedShapes$Tree;"⟩
abbrev cX2_copyFrom : ByteArray := prog_4_method_3_code
def yX2_copyFrom : MethodName := ⟨RX2, "copyFrom", "(LLearnedShapes$State;)V"⟩
def RX3 : String := "LearnedShapes$Tree"
def TX3 : u_T := fun k => match k with
  | 0 => ("LearnedShapes$Tree", "cells", "[I", true)
  | 1 => ("LearnedShapes$Tree", "size", "I", false)
  | _ => ("LearnedShapes$Tree", "documents", "I", false)
def tyX3 : Nat → FieldType := fun k => match k with
  | 0 => .array .int
  | 1 => .int
  | _ => .int
abbrev wsX30 : List Cond := u_ws RX3 TX3 3
theorem nmX3 : ∀ a, a < 3 → ∀ b, b < 3 → a ≠ b → (TX3 a).2.1 ≠ (TX3 b).2.1 := by decide +kernel
theorem tyX3_ok : ∀ k, k < 3 → parseFieldDescriptor (TX3 k).2.2.1 = some (tyX3 k) := by decide +kernel
abbrev cX3_init : ByteArray := prog_5_method_1_code
def yX3_init : MethodName := ⟨RX3, "<init>", "()V"⟩
abbrev cX3_has : ByteArray := prog_5_method_2_code
def yX3_has : MethodName := ⟨RX3, "has", "(I)Z"⟩
abbrev cX3_get : ByteArray := prog_5_method_3_code
def yX3_get : MethodName := ⟨RX3, "get", "(II)I"⟩
abbrev cX3_put : ByteArray := prog_5_method_4_code
def yX3_put : MethodName := ⟨RX3, "put", "(III)V"⟩
abbrev cX3_clear : ByteArray := prog_5_method_5_code
def yX3_clear : MethodName := ⟨RX3, "clear", "()V"⟩
abbrev cX3_copyFrom : ByteArray := prog_5_method_6_code
def yX3_copyFrom : MethodName := ⟨RX3, "copyFrom", "(LLearnedShapes$Tree;)V"⟩
abbrev cX3_moveCells : ByteArray := prog_5_method_7_code
def yX3_moveCells : MethodName := ⟨RX3, "moveCells", "([II[III)V"⟩
abbrev cX3_behind : ByteArray := prog_5_method_8_code
def yX3_behind : MethodName := ⟨RX3, "behind", "(I)I"⟩
abbrev cX3_above : ByteArray := prog_5_method_9_code
def yX3_above : MethodName := ⟨RX3, "above", "(I)I"⟩
abbrev cX3_countBelow : ByteArray := prog_5_method_10_code
def yX3_countBelow : MethodName := ⟨RX3, "countBelow", "(I)I"⟩
abbrev cX3_findBelow : ByteArray := prog_5_method_11_code
def yX3_findBelow : MethodName := ⟨RX3, "findBelow", "(II)I"⟩
abbrev cX3_insertBelow : ByteArray := prog_5_method_12_code
def yX3_insertBelow : MethodName := ⟨RX3, "insertBelow", "(II)I"⟩
abbrev cX3_addRow : ByteArray := prog_5_method_13_code
def yX3_addRow : MethodName := ⟨RX3, "addRow", "(II)I"⟩
abbrev cX3_startRow : ByteArray := prog_5_method_14_code
def yX3_startRow : MethodName := ⟨RX3, "startRow", "(III)V"⟩
abbrev cX3_dropBelow : ByteArray := prog_5_method_15_code
def yX3_dropBelow : MethodName := ⟨RX3, "dropBelow", "(I)V"⟩
abbrev cX3_markOptional : ByteArray := prog_5_method_16_code
def yX3_markOptional : MethodName := ⟨RX3, "markOptional", "()V"⟩
def RX4 : String := "LearnedShapes"
def TX4 : u_T := fun k => match k with
  | 0 => ("LearnedShapes", "codes", "[I", true)
  | 1 => ("LearnedShapes", "length", "I", false)
  | 2 => ("LearnedShapes", "reader", "LLearnedShapes$Reader;", true)
  | 3 => ("LearnedShapes", "now", "LLearnedShapes$State;", true)
  | 4 => ("LearnedShapes", "saved", "[LLearnedShapes$State;", true)
  | 5 => ("LearnedShapes", "savedStates", "I", false)
  | 6 => ("LearnedShapes", "work", "LLearnedShapes$Tree;", true)
  | _ => ("LearnedShapes", "misfit", "LLearnedShapes$Misfit;", true)
def tyX4 : Nat → FieldType := fun k => match k with
  | 0 => .array .int
  | 1 => .int
  | 2 => .object "LearnedShapes$Reader"
  | 3 => .object "LearnedShapes$State"
  | 4 => .array (.object "LearnedShapes$State")
  | 5 => .int
  | 6 => .object "LearnedShapes$Tree"
  | _ => .object "LearnedShapes$Misfit"
abbrev wsX40 : List Cond := u_ws RX4 TX4 8
theorem nmX4 : ∀ a, a < 8 → ∀ b, b < 8 → a ≠ b → (TX4 a).2.1 ≠ (TX4 b).2.1 := by decide +kernel
theorem tyX4_ok : ∀ k, k < 8 → parseFieldDescriptor (TX4 k).2.2.1 = some (tyX4 k) := by decide +kernel
abbrev cX4_init : ByteArray := prog_1_method_1_code
def yX4_init : MethodName := ⟨RX4, "<init>", "()V"⟩
abbrev cX4_learn : ByteArray := prog_1_method_2_code
def yX4_learn : MethodName := ⟨RX4, "learn", "(I)I"⟩
abbrev cX4_join : ByteArray := prog_1_method_3_code
def yX4_join : MethodName := ⟨RX4, "join", "(I)I"⟩
abbrev cX4_forget : ByteArray := prog_1_method_4_code
def yX4_forget : MethodName := ⟨RX4, "forget", "(I)I"⟩
abbrev cX4_swap : ByteArray := prog_1_method_5_code
def yX4_swap : MethodName := ⟨RX4, "swap", "()I"⟩
abbrev cX4_set : ByteArray := prog_1_method_6_code
def yX4_set : MethodName := ⟨RX4, "set", "(I)I"⟩
abbrev cX4_append : ByteArray := prog_1_method_7_code
def yX4_append : MethodName := ⟨RX4, "append", "(I)I"⟩
abbrev cX4_clearBuffer : ByteArray := prog_1_method_8_code
def yX4_clearBuffer : MethodName := ⟨RX4, "clearBuffer", "()I"⟩
abbrev cX4_undo : ByteArray := prog_1_method_10_code
def yX4_undo : MethodName := ⟨RX4, "undo", "()I"⟩
abbrev cX4_node : ByteArray := prog_1_method_11_code
def yX4_node : MethodName := ⟨RX4, "node", "(III)I"⟩
abbrev cX4_child : ByteArray := prog_1_method_12_code
def yX4_child : MethodName := ⟨RX4, "child", "(III)I"⟩
abbrev cX4_shape : ByteArray := prog_1_method_13_code
def yX4_shape : MethodName := ⟨RX4, "shape", "(II)I"⟩
abbrev cX4_count : ByteArray := prog_1_method_15_code
def yX4_count : MethodName := ⟨RX4, "count", "(I)I"⟩
abbrev cX4_ifLearned : ByteArray := prog_1_method_17_code
def yX4_ifLearned : MethodName := ⟨RX4, "ifLearned", "(II)I"⟩
abbrev cX4_covers : ByteArray := prog_1_method_18_code
def yX4_covers : MethodName := ⟨RX4, "covers", "(I)I"⟩
abbrev cX4_sureShare : ByteArray := prog_1_method_20_code
def yX4_sureShare : MethodName := ⟨RX4, "sureShare", "(I)D"⟩
abbrev cX4_isShape : ByteArray := prog_1_method_25_code
def yX4_isShape : MethodName := ⟨RX4, "isShape", "(I)Z"⟩
abbrev cX4_savedAt : ByteArray := prog_1_method_26_code
def yX4_savedAt : MethodName := ⟨RX4, "savedAt", "(I)LLearnedShapes$State;"⟩
abbrev cX4_saveState : ByteArray := prog_1_method_27_code
def yX4_saveState : MethodName := ⟨RX4, "saveState", "()V"⟩
abbrev cX4_dropOldest : ByteArray := prog_1_method_28_code
def yX4_dropOldest : MethodName := ⟨RX4, "dropOldest", "()V"⟩
abbrev cX4_takeWork : ByteArray := prog_1_method_29_code
def yX4_takeWork : MethodName := ⟨RX4, "takeWork", "(LLearnedShapes$Tree;)V"⟩
abbrev cX4_nodeNumber : ByteArray := prog_1_method_30_code
def yX4_nodeNumber : MethodName := ⟨RX4, "nodeNumber", "(LLearnedShapes$Tree;II)I"⟩
abbrev cX4_shapeNumber : ByteArray := prog_1_method_31_code
def yX4_shapeNumber : MethodName := ⟨RX4, "shapeNumber", "(LLearnedShapes$Tree;I)I"⟩
abbrev cX4_stateNumber : ByteArray := prog_1_method_33_code
def yX4_stateNumber : MethodName := ⟨RX4, "stateNumber", "(I)I"⟩
abbrev cX4_shareOfSure : ByteArray := prog_1_method_35_code
def yX4_shareOfSure : MethodName := ⟨RX4, "shareOfSure", "(LLearnedShapes$Tree;)D"⟩
abbrev cX4_joinKinds : ByteArray := prog_1_method_36_code
def yX4_joinKinds : MethodName := ⟨RX4, "joinKinds", "(II)I"⟩
abbrev cX4_workOutLearned : ByteArray := prog_1_method_37_code
def yX4_workOutLearned : MethodName := ⟨RX4, "workOutLearned", "(LLearnedShapes$Tree;)V"⟩
abbrev cX4_showValue : ByteArray := prog_1_method_38_code
def yX4_showValue : MethodName := ⟨RX4, "showValue", "(LLearnedShapes$Tree;I)V"⟩
abbrev cX4_isRefused : ByteArray := prog_1_method_39_code
def yX4_isRefused : MethodName := ⟨RX4, "isRefused", "(LLearnedShapes$Tree;)Z"⟩
abbrev cX4_bringsAny : ByteArray := prog_1_method_40_code
def yX4_bringsAny : MethodName := ⟨RX4, "bringsAny", "(LLearnedShapes$Tree;)Z"⟩
abbrev cX4_outlookNumber : ByteArray := prog_1_method_41_code
def yX4_outlookNumber : MethodName := ⟨RX4, "outlookNumber", "(LLearnedShapes$Tree;I)I"⟩
abbrev cX4_workOutJoined : ByteArray := prog_1_method_42_code
def yX4_workOutJoined : MethodName := ⟨RX4, "workOutJoined", "(LLearnedShapes$Tree;LLearnedShapes$Tree;)V"⟩
abbrev cX4_joinNodes : ByteArray := prog_1_method_43_code
def yX4_joinNodes : MethodName := ⟨RX4, "joinNodes", "(LLearnedShapes$Tree;LLearnedShapes$Tree;ILLearnedShapes$Tree;II)V"⟩
abbrev cX4_coversOther : ByteArray := prog_1_method_44_code
def yX4_coversOther : MethodName := ⟨RX4, "coversOther", "(I)Z"⟩
abbrev cX4_coversNode : ByteArray := prog_1_method_45_code
def yX4_coversNode : MethodName := ⟨RX4, "coversNode", "(LLearnedShapes$Tree;ILLearnedShapes$Tree;II)Z"⟩
abbrev cX4_mustBeThere : ByteArray := prog_1_method_46_code
def yX4_mustBeThere : MethodName := ⟨RX4, "mustBeThere", "(LLearnedShapes$Tree;I)Z"⟩
def RX5 : String := "LearnedShapesModel"
def TX5 : u_T := fun k => match k with
  | _ => ("", "", "", false)
def tyX5 : Nat → FieldType := fun k => match k with
  | _ => .int
abbrev wsX50 : List Cond := u_ws RX5 TX5 0
theorem nmX5 : ∀ a, a < 0 → ∀ b, b < 0 → a ≠ b → (TX5 a).2.1 ≠ (TX5 b).2.1 := by decide +kernel
theorem tyX5_ok : ∀ k, k < 0 → parseFieldDescriptor (TX5 k).2.2.1 = some (tyX5 k) := by decide +kernel
def RJ9 : String := "java/lang/Math"
def TJ9 : u_T := fun k => match k with
  | _ => ("", "", "", false)
def tyJ9 : Nat → FieldType := fun k => match k with
  | _ => .int
abbrev wsJ90 : List Cond := u_ws RJ9 TJ9 0
theorem nmJ9 : ∀ a, a < 0 → ∀ b, b < 0 → a ≠ b → (TJ9 a).2.1 ≠ (TJ9 b).2.1 := by decide +kernel
theorem tyJ9_ok : ∀ k, k < 0 → parseFieldDescriptor (TJ9 k).2.2.1 = some (tyJ9 k) := by decide +kernel
abbrev cJ9_max_7cf53 : ByteArray := prog_12_method_65_code
def yJ9_max_7cf53 : MethodName := ⟨RJ9, "max", "(II)I"⟩
def RJ0 : String := "java/lang/String"
def TJ0 : u_T := fun k => match k with
  | _ => ("", "", "", false)
def tyJ0 : Nat → FieldType := fun k => match k with
  | _ => .int
abbrev wsJ00 : List Cond := u_ws RJ0 TJ0 0
theorem nmJ0 : ∀ a, a < 0 → ∀ b, b < 0 → a ≠ b → (TJ0 a).2.1 ≠ (TJ0 b).2.1 := by decide +kernel
theorem tyJ0_ok : ∀ k, k < 0 → parseFieldDescriptor (TJ0 k).2.2.1 = some (tyJ0 k) := by decide +kernel
def RJ10 : String := "java/lang/System"
def TJ10 : u_T := fun k => match k with
  | _ => ("", "", "", false)
def tyJ10 : Nat → FieldType := fun k => match k with
  | _ => .int
abbrev wsJ100 : List Cond := u_ws RJ10 TJ10 0
theorem nmJ10 : ∀ a, a < 0 → ∀ b, b < 0 → a ≠ b → (TJ10 a).2.1 ≠ (TJ10 b).2.1 := by decide +kernel
theorem tyJ10_ok : ∀ k, k < 0 → parseFieldDescriptor (TJ10 k).2.2.1 = some (tyJ10 k) := by decide +kernel
def RL : String := "LearnedShapesLaw"
abbrev cL_low : ByteArray := method_2_code
def yL_low : MethodName := ⟨RL, "low", "(II)I"⟩
abbrev cL_cell : ByteArray := method_3_code
def yL_cell : MethodName := ⟨RL, "cell", "([II)I"⟩
abbrev cL_simple : ByteArray := method_4_code
def yL_simple : MethodName := ⟨RL, "simple", "(LLearnedShapes;II)V"⟩
abbrev cL_types : ByteArray := method_5_code
def yL_types : MethodName := ⟨RL, "types", "(LLearnedShapes;[II)I"⟩
abbrev cL_learn : ByteArray := method_6_code
def yL_learn : MethodName := ⟨RL, "learn", "(LLearnedShapes;I)I"⟩
abbrev cL_join : ByteArray := method_7_code
def yL_join : MethodName := ⟨RL, "join", "(LLearnedShapes;I)I"⟩
abbrev cL_undo : ByteArray := method_8_code
def yL_undo : MethodName := ⟨RL, "undo", "(LLearnedShapes;)I"⟩
abbrev cL_node : ByteArray := method_9_code
def yL_node : MethodName := ⟨RL, "node", "(LLearnedShapes;II)Z"⟩
abbrev cL_shape : ByteArray := method_10_code
def yL_shape : MethodName := ⟨RL, "shape", "(LLearnedShapes;I)Z"⟩
abbrev cL_law : ByteArray := code
def yL_law : MethodName := ⟨RL, "law", "([I)Z"⟩
def wsX0_init : List Cond := .code yX0_init cX0_init 1 none :: ([.methodLink RX0 1 objectInit, .instanceMethod objectInit, .code objectInit ⟨#[0xb1]⟩ 1 none])
def wsX3_init : List Cond := .code yX3_init cX3_init 1 none :: ([.methodLink RX3 3 objectInit, .instanceMethod objectInit, .code objectInit ⟨#[0xb1]⟩ 1 none, .arrayClass .int, .fieldLink RX3 11 "LearnedShapes$Tree" "cells" "[I"] ++ wsX30)
def wsX1_init : List Cond := .code yX1_init cX1_init 1 none :: ([.methodLink RX1 3 objectInit, .instanceMethod objectInit, .code objectInit ⟨#[0xb1]⟩ 1 none, .classLink RX1 9 RX3, .instantiable RX3 3, .initialized RX3, .fieldLink RX1 12 "LearnedShapes$Reader" "values" "LLearnedShapes$Tree;", .instanceMethod yX3_init, .code yX3_init cX3_init 1 none, .methodLink RX3 3 objectInit, .arrayClass .int, .fieldLink RX3 11 "LearnedShapes$Tree" "cells" "[I"] ++ wsX30 ++ wsX10)
def wsX3_clear : List Cond := .code yX3_clear cX3_clear 1 none :: ([.fieldLink RX3 15 "LearnedShapes$Tree" "size" "I", .fieldLink RX3 19 "LearnedShapes$Tree" "documents" "I"] ++ wsX30)
def wsX1_isDigit : List Cond := .code yX1_isDigit cX1_isDigit 1 (some .boolean) :: ([])
def wsX1_endsNumber : List Cond := .code yX1_endsNumber cX1_endsNumber 4 (some .boolean) :: ([.fieldLink RX1 21 "LearnedShapes$Reader" "state" "I", .methodLink RX1 70 yX1_isDigit, .static yX1_isDigit, .initialized RX1, .code yX1_isDigit cX1_isDigit 1 (some .boolean)] ++ wsX10)
def wsX3_get : List Cond := .code yX3_get cX3_get 5 (some .int) :: ([.fieldLink RX3 15 "LearnedShapes$Tree" "size" "I", .fieldLink RX3 11 "LearnedShapes$Tree" "cells" "[I"] ++ wsX30)
def wsX1_stateBehindValue : List Cond := .code yX1_stateBehindValue cX1_stateBehindValue 1 (some .int) :: ([.fieldLink RX1 25 "LearnedShapes$Reader" "open" "I", .fieldLink RX1 12 "LearnedShapes$Reader" "values" "LLearnedShapes$Tree;", .methodLink RX1 73 yX3_get, .instanceMethod yX3_get, .selects RX3 yX3_get yX3_get, .initialized RX3, .code yX3_get cX3_get 5 (some .int), .fieldLink RX3 15 "LearnedShapes$Tree" "size" "I", .fieldLink RX3 11 "LearnedShapes$Tree" "cells" "[I"] ++ wsX10 ++ wsX30)
def wsX1_kindAt : List Cond := .code yX1_kindAt cX1_kindAt 1 (some .int) :: ([.methodLink RX1 70 yX1_isDigit, .static yX1_isDigit, .initialized RX1, .code yX1_isDigit cX1_isDigit 1 (some .boolean)])
def wsX1_depthOfNext : List Cond := .code yX1_depthOfNext cX1_depthOfNext 1 (some .int) :: ([.fieldLink RX1 25 "LearnedShapes$Reader" "open" "I", .fieldLink RX1 12 "LearnedShapes$Reader" "values" "LLearnedShapes$Tree;", .methodLink RX1 73 yX3_get, .instanceMethod yX3_get, .selects RX3 yX3_get yX3_get, .initialized RX3, .code yX3_get cX3_get 5 (some .int), .fieldLink RX3 15 "LearnedShapes$Tree" "size" "I", .fieldLink RX3 11 "LearnedShapes$Tree" "cells" "[I"] ++ wsX10 ++ wsX30)
def wsX3_put : List Cond := .code yX3_put cX3_put 5 none :: ([.fieldLink RX3 15 "LearnedShapes$Tree" "size" "I", .fieldLink RX3 11 "LearnedShapes$Tree" "cells" "[I"] ++ wsX30)
def wsX3_startRow : List Cond := .code yX3_startRow cX3_startRow 5 none :: ([.methodLink RX3 48 yX3_put, .instanceMethod yX3_put, .selects RX3 yX3_put yX3_put, .initialized RX3, .code yX3_put cX3_put 5 none, .fieldLink RX3 15 "LearnedShapes$Tree" "size" "I", .fieldLink RX3 11 "LearnedShapes$Tree" "cells" "[I"] ++ wsX30)
def wsX3_addRow : List Cond := .code yX3_addRow cX3_addRow 3 (some .int) :: ([.fieldLink RX3 15 "LearnedShapes$Tree" "size" "I", .methodLink RX3 44 yX3_startRow, .instanceMethod yX3_startRow, .selects RX3 yX3_startRow yX3_startRow, .initialized RX3, .code yX3_startRow cX3_startRow 5 none, .methodLink RX3 48 yX3_put, .instanceMethod yX3_put, .selects RX3 yX3_put yX3_put, .code yX3_put cX3_put 5 none, .fieldLink RX3 11 "LearnedShapes$Tree" "cells" "[I"] ++ wsX30)
def wsX1_stateInValue : List Cond := .code yX1_stateInValue cX1_stateInValue 3 (some .int) :: ([.methodLink RX1 47 yX1_stateBehindValue, .instanceMethod yX1_stateBehindValue, .selects RX1 yX1_stateBehindValue yX1_stateBehindValue, .initialized RX1, .code yX1_stateBehindValue cX1_stateBehindValue 1 (some .int), .fieldLink RX1 25 "LearnedShapes$Reader" "open" "I", .fieldLink RX1 12 "LearnedShapes$Reader" "values" "LLearnedShapes$Tree;", .methodLink RX1 73 yX3_get, .instanceMethod yX3_get, .selects RX3 yX3_get yX3_get, .initialized RX3, .code yX3_get cX3_get 5 (some .int), .fieldLink RX3 15 "LearnedShapes$Tree" "size" "I", .fieldLink RX3 11 "LearnedShapes$Tree" "cells" "[I"] ++ wsX10 ++ wsX30)
def wsX1_takeValue_r1 : List Cond := [Cond.fieldLink RX1 12 "LearnedShapes$Reader" "values" "LLearnedShapes$Tree;", Cond.fieldLink RX1 25 "LearnedShapes$Reader" "open" "I", Cond.fieldLink RX1 28 "LearnedShapes$Reader" "letter" "I", Cond.fieldLink RX1 37 "LearnedShapes$Reader" "place" "I", Cond.fieldLink RX1 31 "LearnedShapes$Reader" "run" "I", Cond.fieldLink RX1 21 "LearnedShapes$Reader" "state" "I", Cond.methodLink RX1 81 yX1_kindAt, Cond.static yX1_kindAt, Cond.initialized RX1, Cond.code yX1_kindAt cX1_kindAt 1 (some .int), Cond.methodLink RX1 70 yX1_isDigit, Cond.static yX1_isDigit, Cond.code yX1_isDigit cX1_isDigit 1 (some .boolean), Cond.methodLink RX1 85 yX1_depthOfNext, Cond.instanceMethod yX1_depthOfNext, Cond.selects RX1 yX1_depthOfNext yX1_depthOfNext, Cond.code yX1_depthOfNext cX1_depthOfNext 1 (some .int), Cond.methodLink RX1 73 yX3_get, Cond.instanceMethod yX3_get, Cond.selects RX3 yX3_get yX3_get, Cond.initialized RX3, Cond.code yX3_get cX3_get 5 (some .int), Cond.fieldLink RX3 15 "LearnedShapes$Tree" "size" "I", Cond.fieldLink RX3 11 "LearnedShapes$Tree" "cells" "[I"]
def wsX1_takeValue_r2 : List Cond := [Cond.methodLink RX1 88 yX3_addRow, Cond.instanceMethod yX3_addRow, Cond.selects RX3 yX3_addRow yX3_addRow, Cond.code yX3_addRow cX3_addRow 3 (some .int), Cond.methodLink RX3 44 yX3_startRow, Cond.instanceMethod yX3_startRow, Cond.selects RX3 yX3_startRow yX3_startRow, Cond.code yX3_startRow cX3_startRow 5 none, Cond.methodLink RX3 48 yX3_put, Cond.instanceMethod yX3_put, Cond.selects RX3 yX3_put yX3_put, Cond.code yX3_put cX3_put 5 none, Cond.methodLink RX1 77 yX3_put, Cond.methodLink RX1 91 yX1_stateInValue, Cond.instanceMethod yX1_stateInValue, Cond.selects RX1 yX1_stateInValue yX1_stateInValue, Cond.code yX1_stateInValue cX1_stateInValue 3 (some .int), Cond.methodLink RX1 47 yX1_stateBehindValue, Cond.instanceMethod yX1_stateBehindValue, Cond.selects RX1 yX1_stateBehindValue yX1_stateBehindValue, Cond.code yX1_stateBehindValue cX1_stateBehindValue 1 (some .int)]
def wsX1_takeValue : List Cond := .code yX1_takeValue cX1_takeValue 6 (some .boolean) :: ((wsX1_takeValue_r1 ++ wsX1_takeValue_r2) ++ wsX10 ++ wsX30)
def wsX1_closeValue : List Cond := .code yX1_closeValue cX1_closeValue 1 (some .boolean) :: ([.fieldLink RX1 12 "LearnedShapes$Reader" "values" "LLearnedShapes$Tree;", .fieldLink RX1 25 "LearnedShapes$Reader" "open" "I", .fieldLink RX1 37 "LearnedShapes$Reader" "place" "I", .fieldLink RX1 21 "LearnedShapes$Reader" "state" "I", .methodLink RX1 77 yX3_put, .instanceMethod yX3_put, .selects RX3 yX3_put yX3_put, .initialized RX3, .code yX3_put cX3_put 5 none, .fieldLink RX3 15 "LearnedShapes$Tree" "size" "I", .fieldLink RX3 11 "LearnedShapes$Tree" "cells" "[I", .methodLink RX1 73 yX3_get, .instanceMethod yX3_get, .selects RX3 yX3_get yX3_get, .code yX3_get cX3_get 5 (some .int), .methodLink RX1 47 yX1_stateBehindValue, .instanceMethod yX1_stateBehindValue, .selects RX1 yX1_stateBehindValue yX1_stateBehindValue, .initialized RX1, .code yX1_stateBehindValue cX1_stateBehindValue 1 (some .int)] ++ wsX10 ++ wsX30)
def wsX1_takePart_r1 : List Cond := [Cond.fieldLink RX1 28 "LearnedShapes$Reader" "letter" "I", Cond.fieldLink RX1 12 "LearnedShapes$Reader" "values" "LLearnedShapes$Tree;", Cond.fieldLink RX1 25 "LearnedShapes$Reader" "open" "I", Cond.fieldLink RX1 21 "LearnedShapes$Reader" "state" "I", Cond.methodLink RX1 57 yX1_closeValue, Cond.instanceMethod yX1_closeValue, Cond.selects RX1 yX1_closeValue yX1_closeValue, Cond.initialized RX1, Cond.code yX1_closeValue cX1_closeValue 1 (some .boolean), Cond.fieldLink RX1 37 "LearnedShapes$Reader" "place" "I", Cond.methodLink RX1 77 yX3_put, Cond.instanceMethod yX3_put, Cond.selects RX3 yX3_put yX3_put, Cond.initialized RX3, Cond.code yX3_put cX3_put 5 none, Cond.fieldLink RX3 15 "LearnedShapes$Tree" "size" "I", Cond.fieldLink RX3 11 "LearnedShapes$Tree" "cells" "[I", Cond.methodLink RX1 73 yX3_get, Cond.instanceMethod yX3_get, Cond.selects RX3 yX3_get yX3_get, Cond.code yX3_get cX3_get 5 (some .int), Cond.methodLink RX1 47 yX1_stateBehindValue, Cond.instanceMethod yX1_stateBehindValue, Cond.selects RX1 yX1_stateBehindValue yX1_stateBehindValue]
def wsX1_takePart_r2 : List Cond := [Cond.code yX1_stateBehindValue cX1_stateBehindValue 1 (some .int)]
def wsX1_takePart : List Cond := .code yX1_takePart cX1_takePart 4 (some .boolean) :: ((wsX1_takePart_r1 ++ wsX1_takePart_r2) ++ wsX10 ++ wsX30)
def wsX1_takeComma : List Cond := .code yX1_takeComma cX1_takeComma 2 (some .boolean) :: ([.fieldLink RX1 21 "LearnedShapes$Reader" "state" "I"] ++ wsX10)
def wsX1_takeInWord : List Cond := .code yX1_takeInWord cX1_takeInWord 2 (some .boolean) :: ([.fieldLink RX1 31 "LearnedShapes$Reader" "run" "I", .fieldLink RX1 21 "LearnedShapes$Reader" "state" "I", .methodLink RX1 47 yX1_stateBehindValue, .instanceMethod yX1_stateBehindValue, .selects RX1 yX1_stateBehindValue yX1_stateBehindValue, .initialized RX1, .code yX1_stateBehindValue cX1_stateBehindValue 1 (some .int), .fieldLink RX1 25 "LearnedShapes$Reader" "open" "I", .fieldLink RX1 12 "LearnedShapes$Reader" "values" "LLearnedShapes$Tree;", .methodLink RX1 73 yX3_get, .instanceMethod yX3_get, .selects RX3 yX3_get yX3_get, .initialized RX3, .code yX3_get cX3_get 5 (some .int), .fieldLink RX3 15 "LearnedShapes$Tree" "size" "I", .fieldLink RX3 11 "LearnedShapes$Tree" "cells" "[I"] ++ wsX10 ++ wsX30)
def wsX1_takePoint : List Cond := .code yX1_takePoint cX1_takePoint 2 (some .boolean) :: ([.fieldLink RX1 21 "LearnedShapes$Reader" "state" "I", .fieldLink RX1 12 "LearnedShapes$Reader" "values" "LLearnedShapes$Tree;", .fieldLink RX1 97 "LearnedShapes$Tree" "size" "I", .fieldLink RX1 31 "LearnedShapes$Reader" "run" "I", .methodLink RX1 77 yX3_put, .instanceMethod yX3_put, .selects RX3 yX3_put yX3_put, .initialized RX3, .code yX3_put cX3_put 5 none, .fieldLink RX3 15 "LearnedShapes$Tree" "size" "I", .fieldLink RX3 11 "LearnedShapes$Tree" "cells" "[I"] ++ wsX10 ++ wsX30)
def wsX1_takeInNumber : List Cond := .code yX1_takeInNumber cX1_takeInNumber 2 (some .boolean) :: ([.fieldLink RX1 21 "LearnedShapes$Reader" "state" "I", .fieldLink RX1 31 "LearnedShapes$Reader" "run" "I", .methodLink RX1 94 yX1_takePoint, .instanceMethod yX1_takePoint, .selects RX1 yX1_takePoint yX1_takePoint, .initialized RX1, .code yX1_takePoint cX1_takePoint 2 (some .boolean), .fieldLink RX1 12 "LearnedShapes$Reader" "values" "LLearnedShapes$Tree;", .fieldLink RX1 97 "LearnedShapes$Tree" "size" "I", .methodLink RX1 77 yX3_put, .instanceMethod yX3_put, .selects RX3 yX3_put yX3_put, .initialized RX3, .code yX3_put cX3_put 5 none, .fieldLink RX3 15 "LearnedShapes$Tree" "size" "I", .fieldLink RX3 11 "LearnedShapes$Tree" "cells" "[I", .methodLink RX1 70 yX1_isDigit, .static yX1_isDigit, .code yX1_isDigit cX1_isDigit 1 (some .boolean)] ++ wsX10 ++ wsX30)
def wsX1_take_r1 : List Cond := [Cond.fieldLink RX1 21 "LearnedShapes$Reader" "state" "I", Cond.methodLink RX1 44 yX1_endsNumber, Cond.instanceMethod yX1_endsNumber, Cond.selects RX1 yX1_endsNumber yX1_endsNumber, Cond.initialized RX1, Cond.code yX1_endsNumber cX1_endsNumber 4 (some .boolean), Cond.methodLink RX1 70 yX1_isDigit, Cond.static yX1_isDigit, Cond.code yX1_isDigit cX1_isDigit 1 (some .boolean), Cond.methodLink RX1 47 yX1_stateBehindValue, Cond.instanceMethod yX1_stateBehindValue, Cond.selects RX1 yX1_stateBehindValue yX1_stateBehindValue, Cond.code yX1_stateBehindValue cX1_stateBehindValue 1 (some .int), Cond.fieldLink RX1 25 "LearnedShapes$Reader" "open" "I", Cond.fieldLink RX1 12 "LearnedShapes$Reader" "values" "LLearnedShapes$Tree;", Cond.methodLink RX1 73 yX3_get, Cond.instanceMethod yX3_get, Cond.selects RX3 yX3_get yX3_get, Cond.initialized RX3, Cond.code yX3_get cX3_get 5 (some .int), Cond.fieldLink RX3 15 "LearnedShapes$Tree" "size" "I", Cond.fieldLink RX3 11 "LearnedShapes$Tree" "cells" "[I", Cond.methodLink RX1 51 yX1_takeValue, Cond.instanceMethod yX1_takeValue]
def wsX1_take_r2 : List Cond := [Cond.selects RX1 yX1_takeValue yX1_takeValue, Cond.code yX1_takeValue cX1_takeValue 6 (some .boolean), Cond.fieldLink RX1 28 "LearnedShapes$Reader" "letter" "I", Cond.fieldLink RX1 37 "LearnedShapes$Reader" "place" "I", Cond.fieldLink RX1 31 "LearnedShapes$Reader" "run" "I", Cond.methodLink RX1 81 yX1_kindAt, Cond.static yX1_kindAt, Cond.code yX1_kindAt cX1_kindAt 1 (some .int), Cond.methodLink RX1 85 yX1_depthOfNext, Cond.instanceMethod yX1_depthOfNext, Cond.selects RX1 yX1_depthOfNext yX1_depthOfNext, Cond.code yX1_depthOfNext cX1_depthOfNext 1 (some .int), Cond.methodLink RX1 88 yX3_addRow, Cond.instanceMethod yX3_addRow, Cond.selects RX3 yX3_addRow yX3_addRow, Cond.code yX3_addRow cX3_addRow 3 (some .int), Cond.methodLink RX3 44 yX3_startRow, Cond.instanceMethod yX3_startRow, Cond.selects RX3 yX3_startRow yX3_startRow, Cond.code yX3_startRow cX3_startRow 5 none, Cond.methodLink RX3 48 yX3_put, Cond.instanceMethod yX3_put, Cond.selects RX3 yX3_put yX3_put, Cond.code yX3_put cX3_put 5 none]
def wsX1_take_r3 : List Cond := [Cond.methodLink RX1 77 yX3_put, Cond.methodLink RX1 91 yX1_stateInValue, Cond.instanceMethod yX1_stateInValue, Cond.selects RX1 yX1_stateInValue yX1_stateInValue, Cond.code yX1_stateInValue cX1_stateInValue 3 (some .int), Cond.methodLink RX1 54 yX1_takePart, Cond.instanceMethod yX1_takePart, Cond.selects RX1 yX1_takePart yX1_takePart, Cond.code yX1_takePart cX1_takePart 4 (some .boolean), Cond.methodLink RX1 57 yX1_closeValue, Cond.instanceMethod yX1_closeValue, Cond.selects RX1 yX1_closeValue yX1_closeValue, Cond.code yX1_closeValue cX1_closeValue 1 (some .boolean), Cond.methodLink RX1 61 yX1_takeComma, Cond.instanceMethod yX1_takeComma, Cond.selects RX1 yX1_takeComma yX1_takeComma, Cond.code yX1_takeComma cX1_takeComma 2 (some .boolean), Cond.methodLink RX1 64 yX1_takeInWord, Cond.instanceMethod yX1_takeInWord, Cond.selects RX1 yX1_takeInWord yX1_takeInWord, Cond.code yX1_takeInWord cX1_takeInWord 2 (some .boolean), Cond.methodLink RX1 67 yX1_takeInNumber, Cond.instanceMethod yX1_takeInNumber, Cond.selects RX1 yX1_takeInNumber yX1_takeInNumber]
def wsX1_take_r4 : List Cond := [Cond.code yX1_takeInNumber cX1_takeInNumber 2 (some .boolean), Cond.methodLink RX1 94 yX1_takePoint, Cond.instanceMethod yX1_takePoint, Cond.selects RX1 yX1_takePoint yX1_takePoint, Cond.code yX1_takePoint cX1_takePoint 2 (some .boolean), Cond.fieldLink RX1 97 "LearnedShapes$Tree" "size" "I"]
def wsX1_take : List Cond := .code yX1_take cX1_take 2 (some .boolean) :: ((wsX1_take_r1 ++ (wsX1_take_r2 ++ (wsX1_take_r3 ++ wsX1_take_r4))) ++ wsX10 ++ wsX30)
def wsX1_read_r1 : List Cond := [Cond.fieldLink RX1 12 "LearnedShapes$Reader" "values" "LLearnedShapes$Tree;", Cond.fieldLink RX1 21 "LearnedShapes$Reader" "state" "I", Cond.fieldLink RX1 25 "LearnedShapes$Reader" "open" "I", Cond.fieldLink RX1 28 "LearnedShapes$Reader" "letter" "I", Cond.fieldLink RX1 31 "LearnedShapes$Reader" "run" "I", Cond.fieldLink RX1 34 "LearnedShapes$Reader" "firstWrong" "I", Cond.fieldLink RX1 37 "LearnedShapes$Reader" "place" "I", Cond.methodLink RX1 18 yX3_clear, Cond.instanceMethod yX3_clear, Cond.selects RX3 yX3_clear yX3_clear, Cond.initialized RX3, Cond.code yX3_clear cX3_clear 1 none, Cond.fieldLink RX3 15 "LearnedShapes$Tree" "size" "I", Cond.fieldLink RX3 19 "LearnedShapes$Tree" "documents" "I", Cond.methodLink RX1 40 yX1_take, Cond.instanceMethod yX1_take, Cond.selects RX1 yX1_take yX1_take, Cond.initialized RX1, Cond.code yX1_take cX1_take 2 (some .boolean), Cond.methodLink RX1 44 yX1_endsNumber, Cond.instanceMethod yX1_endsNumber, Cond.selects RX1 yX1_endsNumber yX1_endsNumber, Cond.code yX1_endsNumber cX1_endsNumber 4 (some .boolean), Cond.methodLink RX1 70 yX1_isDigit]
def wsX1_read_r2 : List Cond := [Cond.static yX1_isDigit, Cond.code yX1_isDigit cX1_isDigit 1 (some .boolean), Cond.methodLink RX1 47 yX1_stateBehindValue, Cond.instanceMethod yX1_stateBehindValue, Cond.selects RX1 yX1_stateBehindValue yX1_stateBehindValue, Cond.code yX1_stateBehindValue cX1_stateBehindValue 1 (some .int), Cond.methodLink RX1 73 yX3_get, Cond.instanceMethod yX3_get, Cond.selects RX3 yX3_get yX3_get, Cond.code yX3_get cX3_get 5 (some .int), Cond.fieldLink RX3 11 "LearnedShapes$Tree" "cells" "[I", Cond.methodLink RX1 51 yX1_takeValue, Cond.instanceMethod yX1_takeValue, Cond.selects RX1 yX1_takeValue yX1_takeValue, Cond.code yX1_takeValue cX1_takeValue 6 (some .boolean), Cond.methodLink RX1 81 yX1_kindAt, Cond.static yX1_kindAt, Cond.code yX1_kindAt cX1_kindAt 1 (some .int), Cond.methodLink RX1 85 yX1_depthOfNext, Cond.instanceMethod yX1_depthOfNext, Cond.selects RX1 yX1_depthOfNext yX1_depthOfNext, Cond.code yX1_depthOfNext cX1_depthOfNext 1 (some .int), Cond.methodLink RX1 88 yX3_addRow, Cond.instanceMethod yX3_addRow]
def wsX1_read_r3 : List Cond := [Cond.selects RX3 yX3_addRow yX3_addRow, Cond.code yX3_addRow cX3_addRow 3 (some .int), Cond.methodLink RX3 44 yX3_startRow, Cond.instanceMethod yX3_startRow, Cond.selects RX3 yX3_startRow yX3_startRow, Cond.code yX3_startRow cX3_startRow 5 none, Cond.methodLink RX3 48 yX3_put, Cond.instanceMethod yX3_put, Cond.selects RX3 yX3_put yX3_put, Cond.code yX3_put cX3_put 5 none, Cond.methodLink RX1 77 yX3_put, Cond.methodLink RX1 91 yX1_stateInValue, Cond.instanceMethod yX1_stateInValue, Cond.selects RX1 yX1_stateInValue yX1_stateInValue, Cond.code yX1_stateInValue cX1_stateInValue 3 (some .int), Cond.methodLink RX1 54 yX1_takePart, Cond.instanceMethod yX1_takePart, Cond.selects RX1 yX1_takePart yX1_takePart, Cond.code yX1_takePart cX1_takePart 4 (some .boolean), Cond.methodLink RX1 57 yX1_closeValue, Cond.instanceMethod yX1_closeValue, Cond.selects RX1 yX1_closeValue yX1_closeValue, Cond.code yX1_closeValue cX1_closeValue 1 (some .boolean), Cond.methodLink RX1 61 yX1_takeComma]
def wsX1_read_r4 : List Cond := [Cond.instanceMethod yX1_takeComma, Cond.selects RX1 yX1_takeComma yX1_takeComma, Cond.code yX1_takeComma cX1_takeComma 2 (some .boolean), Cond.methodLink RX1 64 yX1_takeInWord, Cond.instanceMethod yX1_takeInWord, Cond.selects RX1 yX1_takeInWord yX1_takeInWord, Cond.code yX1_takeInWord cX1_takeInWord 2 (some .boolean), Cond.methodLink RX1 67 yX1_takeInNumber, Cond.instanceMethod yX1_takeInNumber, Cond.selects RX1 yX1_takeInNumber yX1_takeInNumber, Cond.code yX1_takeInNumber cX1_takeInNumber 2 (some .boolean), Cond.methodLink RX1 94 yX1_takePoint, Cond.instanceMethod yX1_takePoint, Cond.selects RX1 yX1_takePoint yX1_takePoint, Cond.code yX1_takePoint cX1_takePoint 2 (some .boolean), Cond.fieldLink RX1 97 "LearnedShapes$Tree" "size" "I"]
def wsX1_read : List Cond := .code yX1_read cX1_read 4 (some .boolean) :: ((wsX1_read_r1 ++ (wsX1_read_r2 ++ (wsX1_read_r3 ++ wsX1_read_r4))) ++ wsX10 ++ wsX30)
def wsX2_init : List Cond := .code yX2_init cX2_init 1 none :: ([.methodLink RX2 1 objectInit, .instanceMethod objectInit, .code objectInit ⟨#[0xb1]⟩ 1 none, .classLink RX2 7 RX3, .instantiable RX3 3, .initialized RX3, .fieldLink RX2 10 "LearnedShapes$State" "first" "LLearnedShapes$Tree;", .fieldLink RX2 16 "LearnedShapes$State" "second" "LLearnedShapes$Tree;", .instanceMethod yX3_init, .code yX3_init cX3_init 1 none, .methodLink RX3 3 objectInit, .arrayClass .int, .fieldLink RX3 11 "LearnedShapes$Tree" "cells" "[I"] ++ wsX30 ++ wsX20)
def wsX2_tree : List Cond := .code yX2_tree cX2_tree 2 (some (.object "LearnedShapes$Tree")) :: ([.fieldLink RX2 10 "LearnedShapes$State" "first" "LLearnedShapes$Tree;", .fieldLink RX2 16 "LearnedShapes$State" "second" "LLearnedShapes$Tree;"] ++ wsX20)
def wsX3_moveCells : List Cond := .code yX3_moveCells cX3_moveCells 8 none :: ([.methodLink RX3 26 arraycopyName, .native arraycopyName, .static arraycopyName, .initialized "java/lang/System"])
def wsX3_copyFrom : List Cond := .code yX3_copyFrom cX3_copyFrom 2 none :: ([.fieldLink RX3 11 "LearnedShapes$Tree" "cells" "[I", .fieldLink RX3 15 "LearnedShapes$Tree" "size" "I", .fieldLink RX3 19 "LearnedShapes$Tree" "documents" "I", .methodLink RX3 22 yX3_moveCells, .static yX3_moveCells, .initialized RX3, .code yX3_moveCells cX3_moveCells 8 none, .methodLink RX3 26 arraycopyName, .native arraycopyName, .static arraycopyName, .initialized "java/lang/System"] ++ wsX30)
def wsX2_copyFrom : List Cond := .code yX2_copyFrom cX2_copyFrom 2 none :: ([.fieldLink RX2 10 "LearnedShapes$State" "first" "LLearnedShapes$Tree;", .fieldLink RX2 16 "LearnedShapes$State" "second" "LLearnedShapes$Tree;", .fieldLink RX2 23 "LearnedShapes$State" "setting" "I", .methodLink RX2 19 yX3_copyFrom, .instanceMethod yX3_copyFrom, .selects RX3 yX3_copyFrom yX3_copyFrom, .initialized RX3, .code yX3_copyFrom cX3_copyFrom 2 none, .fieldLink RX3 11 "LearnedShapes$Tree" "cells" "[I", .fieldLink RX3 15 "LearnedShapes$Tree" "size" "I", .fieldLink RX3 19 "LearnedShapes$Tree" "documents" "I", .methodLink RX3 22 yX3_moveCells, .static yX3_moveCells, .code yX3_moveCells cX3_moveCells 8 none, .methodLink RX3 26 arraycopyName, .native arraycopyName, .static arraycopyName, .initialized "java/lang/System"] ++ wsX20 ++ wsX30)
def wsX3_has : List Cond := .code yX3_has cX3_has 2 (some .boolean) :: ([.fieldLink RX3 15 "LearnedShapes$Tree" "size" "I"] ++ wsX30)
def wsX3_behind : List Cond := .code yX3_behind cX3_behind 4 (some .int) :: ([.fieldLink RX3 15 "LearnedShapes$Tree" "size" "I", .methodLink RX3 32 yX3_get, .instanceMethod yX3_get, .selects RX3 yX3_get yX3_get, .initialized RX3, .code yX3_get cX3_get 5 (some .int), .fieldLink RX3 11 "LearnedShapes$Tree" "cells" "[I"] ++ wsX30)
def wsX3_above : List Cond := .code yX3_above cX3_above 4 (some .int) :: ([.methodLink RX3 32 yX3_get, .instanceMethod yX3_get, .selects RX3 yX3_get yX3_get, .initialized RX3, .code yX3_get cX3_get 5 (some .int), .fieldLink RX3 15 "LearnedShapes$Tree" "size" "I", .fieldLink RX3 11 "LearnedShapes$Tree" "cells" "[I"] ++ wsX30)
def wsX3_countBelow : List Cond := .code yX3_countBelow cX3_countBelow 6 (some .int) :: ([.methodLink RX3 32 yX3_get, .instanceMethod yX3_get, .selects RX3 yX3_get yX3_get, .initialized RX3, .code yX3_get cX3_get 5 (some .int), .fieldLink RX3 15 "LearnedShapes$Tree" "size" "I", .fieldLink RX3 11 "LearnedShapes$Tree" "cells" "[I", .methodLink RX3 36 yX3_behind, .instanceMethod yX3_behind, .selects RX3 yX3_behind yX3_behind, .code yX3_behind cX3_behind 4 (some .int)] ++ wsX30)
def wsX3_findBelow : List Cond := .code yX3_findBelow cX3_findBelow 5 (some .int) :: ([.fieldLink RX3 15 "LearnedShapes$Tree" "size" "I", .methodLink RX3 40 yX3_has, .instanceMethod yX3_has, .selects RX3 yX3_has yX3_has, .initialized RX3, .code yX3_has cX3_has 2 (some .boolean), .methodLink RX3 32 yX3_get, .instanceMethod yX3_get, .selects RX3 yX3_get yX3_get, .code yX3_get cX3_get 5 (some .int), .fieldLink RX3 11 "LearnedShapes$Tree" "cells" "[I"] ++ wsX30)
def wsX3_insertBelow_r1 : List Cond := [Cond.fieldLink RX3 15 "LearnedShapes$Tree" "size" "I", Cond.fieldLink RX3 11 "LearnedShapes$Tree" "cells" "[I", Cond.methodLink RX3 40 yX3_has, Cond.instanceMethod yX3_has, Cond.selects RX3 yX3_has yX3_has, Cond.initialized RX3, Cond.code yX3_has cX3_has 2 (some .boolean), Cond.methodLink RX3 32 yX3_get, Cond.instanceMethod yX3_get, Cond.selects RX3 yX3_get yX3_get, Cond.code yX3_get cX3_get 5 (some .int), Cond.methodLink RX3 22 yX3_moveCells, Cond.static yX3_moveCells, Cond.code yX3_moveCells cX3_moveCells 8 none, Cond.methodLink RX3 26 arraycopyName, Cond.native arraycopyName, Cond.static arraycopyName, Cond.initialized "java/lang/System", Cond.methodLink RX3 44 yX3_startRow, Cond.instanceMethod yX3_startRow, Cond.selects RX3 yX3_startRow yX3_startRow, Cond.code yX3_startRow cX3_startRow 5 none, Cond.methodLink RX3 48 yX3_put, Cond.instanceMethod yX3_put]
def wsX3_insertBelow_r2 : List Cond := [Cond.selects RX3 yX3_put yX3_put, Cond.code yX3_put cX3_put 5 none]
def wsX3_insertBelow : List Cond := .code yX3_insertBelow cX3_insertBelow 5 (some .int) :: ((wsX3_insertBelow_r1 ++ wsX3_insertBelow_r2) ++ wsX30)
def wsX3_dropBelow : List Cond := .code yX3_dropBelow cX3_dropBelow 3 none :: ([.fieldLink RX3 11 "LearnedShapes$Tree" "cells" "[I", .fieldLink RX3 15 "LearnedShapes$Tree" "size" "I", .methodLink RX3 36 yX3_behind, .instanceMethod yX3_behind, .selects RX3 yX3_behind yX3_behind, .initialized RX3, .code yX3_behind cX3_behind 4 (some .int), .methodLink RX3 32 yX3_get, .instanceMethod yX3_get, .selects RX3 yX3_get yX3_get, .code yX3_get cX3_get 5 (some .int), .methodLink RX3 22 yX3_moveCells, .static yX3_moveCells, .code yX3_moveCells cX3_moveCells 8 none, .methodLink RX3 26 arraycopyName, .native arraycopyName, .static arraycopyName, .initialized "java/lang/System"] ++ wsX30)
def wsX3_markOptional : List Cond := .code yX3_markOptional cX3_markOptional 5 none :: ([.fieldLink RX3 15 "LearnedShapes$Tree" "size" "I", .methodLink RX3 32 yX3_get, .instanceMethod yX3_get, .selects RX3 yX3_get yX3_get, .initialized RX3, .code yX3_get cX3_get 5 (some .int), .fieldLink RX3 11 "LearnedShapes$Tree" "cells" "[I", .methodLink RX3 51 yX3_above, .instanceMethod yX3_above, .selects RX3 yX3_above yX3_above, .code yX3_above cX3_above 4 (some .int), .methodLink RX3 48 yX3_put, .instanceMethod yX3_put, .selects RX3 yX3_put yX3_put, .code yX3_put cX3_put 5 none] ++ wsX30)
def wsX4_init_r1 : List Cond := [Cond.methodLink RX4 1 objectInit, Cond.instanceMethod objectInit, Cond.code objectInit ⟨#[0xb1]⟩ 1 none, Cond.arrayClass .int, Cond.fieldLink RX4 9 "LearnedShapes" "codes" "[I", Cond.classLink RX4 13 RX1, Cond.instantiable RX1 7, Cond.initialized RX1, Cond.fieldLink RX4 16 "LearnedShapes" "reader" "LLearnedShapes$Reader;", Cond.classLink RX4 20 RX2, Cond.instantiable RX2 3, Cond.initialized RX2, Cond.fieldLink RX4 23 "LearnedShapes" "now" "LLearnedShapes$State;", Cond.fieldLink RX4 27 "LearnedShapes" "saved" "[LLearnedShapes$State;", Cond.classLink RX4 31 RX3, Cond.instantiable RX3 3, Cond.initialized RX3, Cond.fieldLink RX4 34 "LearnedShapes" "work" "LLearnedShapes$Tree;", Cond.classLink RX4 38 RX0, Cond.instantiable RX0 3, Cond.initialized RX0, Cond.fieldLink RX4 41 "LearnedShapes" "misfit" "LLearnedShapes$Misfit;", Cond.instanceMethod yX1_init, Cond.code yX1_init cX1_init 1 none]
def wsX4_init_r2 : List Cond := [Cond.methodLink RX1 3 objectInit, Cond.classLink RX1 9 RX3, Cond.fieldLink RX1 12 "LearnedShapes$Reader" "values" "LLearnedShapes$Tree;", Cond.instanceMethod yX3_init, Cond.code yX3_init cX3_init 1 none, Cond.methodLink RX3 3 objectInit, Cond.fieldLink RX3 11 "LearnedShapes$Tree" "cells" "[I", Cond.instanceMethod yX2_init, Cond.code yX2_init cX2_init 1 none, Cond.methodLink RX2 1 objectInit, Cond.classLink RX2 7 RX3, Cond.fieldLink RX2 10 "LearnedShapes$State" "first" "LLearnedShapes$Tree;", Cond.fieldLink RX2 16 "LearnedShapes$State" "second" "LLearnedShapes$Tree;", Cond.instanceMethod yX0_init, Cond.code yX0_init cX0_init 1 none, Cond.methodLink RX0 1 objectInit]
def wsX4_init : List Cond := .code yX4_init cX4_init 2 none :: ((wsX4_init_r1 ++ wsX4_init_r2) ++ wsX40 ++ wsX10 ++ wsX20 ++ wsX30 ++ wsX00)
def wsX4_isShape : List Cond := .code yX4_isShape cX4_isShape 1 (some .boolean) :: ([])
def wsX4_joinKinds : List Cond := .code yX4_joinKinds cX4_joinKinds 2 (some .int) :: ([])
def wsX4_showValue_r1 : List Cond := [Cond.fieldLink RX4 34 "LearnedShapes" "work" "LLearnedShapes$Tree;", Cond.fieldLink RX4 92 "LearnedShapes$Tree" "size" "I", Cond.fieldLink RX4 226 "LearnedShapes$Tree" "documents" "I", Cond.methodLink RX4 217 yX3_get, Cond.instanceMethod yX3_get, Cond.selects RX3 yX3_get yX3_get, Cond.initialized RX3, Cond.code yX3_get cX3_get 5 (some .int), Cond.fieldLink RX3 15 "LearnedShapes$Tree" "size" "I", Cond.fieldLink RX3 11 "LearnedShapes$Tree" "cells" "[I", Cond.methodLink RX4 245 yX3_put, Cond.instanceMethod yX3_put, Cond.selects RX3 yX3_put yX3_put, Cond.code yX3_put cX3_put 5 none, Cond.methodLink RX4 150 yX3_findBelow, Cond.instanceMethod yX3_findBelow, Cond.selects RX3 yX3_findBelow yX3_findBelow, Cond.code yX3_findBelow cX3_findBelow 5 (some .int), Cond.methodLink RX3 40 yX3_has, Cond.instanceMethod yX3_has, Cond.selects RX3 yX3_has yX3_has, Cond.code yX3_has cX3_has 2 (some .boolean), Cond.methodLink RX3 32 yX3_get, Cond.methodLink RX4 253 yX3_insertBelow]
def wsX4_showValue_r2 : List Cond := [Cond.instanceMethod yX3_insertBelow, Cond.selects RX3 yX3_insertBelow yX3_insertBelow, Cond.code yX3_insertBelow cX3_insertBelow 5 (some .int), Cond.methodLink RX3 22 yX3_moveCells, Cond.static yX3_moveCells, Cond.code yX3_moveCells cX3_moveCells 8 none, Cond.methodLink RX3 26 arraycopyName, Cond.native arraycopyName, Cond.static arraycopyName, Cond.initialized "java/lang/System", Cond.methodLink RX3 44 yX3_startRow, Cond.instanceMethod yX3_startRow, Cond.selects RX3 yX3_startRow yX3_startRow, Cond.code yX3_startRow cX3_startRow 5 none, Cond.methodLink RX3 48 yX3_put, Cond.methodLink RX4 256 yX4_joinKinds, Cond.static yX4_joinKinds, Cond.initialized RX4, Cond.code yX4_joinKinds cX4_joinKinds 2 (some .int), Cond.methodLink RX4 259 yX3_dropBelow, Cond.instanceMethod yX3_dropBelow, Cond.selects RX3 yX3_dropBelow yX3_dropBelow, Cond.code yX3_dropBelow cX3_dropBelow 3 none, Cond.methodLink RX3 36 yX3_behind]
def wsX4_showValue_r3 : List Cond := [Cond.instanceMethod yX3_behind, Cond.selects RX3 yX3_behind yX3_behind, Cond.code yX3_behind cX3_behind 4 (some .int)]
def wsX4_showValue : List Cond := .code yX4_showValue cX4_showValue 10 none :: ((wsX4_showValue_r1 ++ (wsX4_showValue_r2 ++ wsX4_showValue_r3)) ++ wsX40 ++ wsX30)
def wsX4_workOutLearned_r1 : List Cond := [Cond.fieldLink RX4 16 "LearnedShapes" "reader" "LLearnedShapes$Reader;", Cond.fieldLink RX4 34 "LearnedShapes" "work" "LLearnedShapes$Tree;", Cond.fieldLink RX4 226 "LearnedShapes$Tree" "documents" "I", Cond.fieldLink RX4 92 "LearnedShapes$Tree" "size" "I", Cond.methodLink RX4 107 yX3_copyFrom, Cond.instanceMethod yX3_copyFrom, Cond.selects RX3 yX3_copyFrom yX3_copyFrom, Cond.initialized RX3, Cond.code yX3_copyFrom cX3_copyFrom 2 none, Cond.fieldLink RX3 11 "LearnedShapes$Tree" "cells" "[I", Cond.fieldLink RX3 15 "LearnedShapes$Tree" "size" "I", Cond.fieldLink RX3 19 "LearnedShapes$Tree" "documents" "I", Cond.methodLink RX3 22 yX3_moveCells, Cond.static yX3_moveCells, Cond.code yX3_moveCells cX3_moveCells 8 none, Cond.methodLink RX3 26 arraycopyName, Cond.native arraycopyName, Cond.static arraycopyName, Cond.initialized "java/lang/System", Cond.methodLink RX4 245 yX3_put, Cond.instanceMethod yX3_put, Cond.selects RX3 yX3_put yX3_put, Cond.code yX3_put cX3_put 5 none, Cond.methodLink RX4 249 yX4_showValue]
def wsX4_workOutLearned_r2 : List Cond := [Cond.instanceMethod yX4_showValue, Cond.selects RX4 yX4_showValue yX4_showValue, Cond.initialized RX4, Cond.code yX4_showValue cX4_showValue 10 none, Cond.methodLink RX4 217 yX3_get, Cond.instanceMethod yX3_get, Cond.selects RX3 yX3_get yX3_get, Cond.code yX3_get cX3_get 5 (some .int), Cond.methodLink RX4 150 yX3_findBelow, Cond.instanceMethod yX3_findBelow, Cond.selects RX3 yX3_findBelow yX3_findBelow, Cond.code yX3_findBelow cX3_findBelow 5 (some .int), Cond.methodLink RX3 40 yX3_has, Cond.instanceMethod yX3_has, Cond.selects RX3 yX3_has yX3_has, Cond.code yX3_has cX3_has 2 (some .boolean), Cond.methodLink RX3 32 yX3_get, Cond.methodLink RX4 253 yX3_insertBelow, Cond.instanceMethod yX3_insertBelow, Cond.selects RX3 yX3_insertBelow yX3_insertBelow, Cond.code yX3_insertBelow cX3_insertBelow 5 (some .int), Cond.methodLink RX3 44 yX3_startRow, Cond.instanceMethod yX3_startRow, Cond.selects RX3 yX3_startRow yX3_startRow]
def wsX4_workOutLearned_r3 : List Cond := [Cond.code yX3_startRow cX3_startRow 5 none, Cond.methodLink RX3 48 yX3_put, Cond.methodLink RX4 256 yX4_joinKinds, Cond.static yX4_joinKinds, Cond.code yX4_joinKinds cX4_joinKinds 2 (some .int), Cond.methodLink RX4 259 yX3_dropBelow, Cond.instanceMethod yX3_dropBelow, Cond.selects RX3 yX3_dropBelow yX3_dropBelow, Cond.code yX3_dropBelow cX3_dropBelow 3 none, Cond.methodLink RX3 36 yX3_behind, Cond.instanceMethod yX3_behind, Cond.selects RX3 yX3_behind yX3_behind, Cond.code yX3_behind cX3_behind 4 (some .int)]
def wsX4_workOutLearned : List Cond := .code yX4_workOutLearned cX4_workOutLearned 5 none :: ((wsX4_workOutLearned_r1 ++ (wsX4_workOutLearned_r2 ++ wsX4_workOutLearned_r3)) ++ wsX40 ++ wsX10 ++ wsX30)
def wsX4_bringsAny : List Cond := .code yX4_bringsAny cX4_bringsAny 4 (some .boolean) :: ([.fieldLink RX4 34 "LearnedShapes" "work" "LLearnedShapes$Tree;", .fieldLink RX4 92 "LearnedShapes$Tree" "size" "I", .methodLink RX4 217 yX3_get, .instanceMethod yX3_get, .selects RX3 yX3_get yX3_get, .initialized RX3, .code yX3_get cX3_get 5 (some .int), .fieldLink RX3 15 "LearnedShapes$Tree" "size" "I", .fieldLink RX3 11 "LearnedShapes$Tree" "cells" "[I"] ++ wsX40 ++ wsX30)
def wsX4_isRefused : List Cond := .code yX4_isRefused cX4_isRefused 2 (some .boolean) :: ([.fieldLink RX4 34 "LearnedShapes" "work" "LLearnedShapes$Tree;", .fieldLink RX4 92 "LearnedShapes$Tree" "size" "I", .fieldLink RX4 23 "LearnedShapes" "now" "LLearnedShapes$State;", .fieldLink RX4 115 "LearnedShapes$State" "setting" "I", .methodLink RX4 263 yX4_bringsAny, .instanceMethod yX4_bringsAny, .selects RX4 yX4_bringsAny yX4_bringsAny, .initialized RX4, .code yX4_bringsAny cX4_bringsAny 4 (some .boolean), .methodLink RX4 217 yX3_get, .instanceMethod yX3_get, .selects RX3 yX3_get yX3_get, .initialized RX3, .code yX3_get cX3_get 5 (some .int), .fieldLink RX3 15 "LearnedShapes$Tree" "size" "I", .fieldLink RX3 11 "LearnedShapes$Tree" "cells" "[I"] ++ wsX40 ++ wsX30 ++ wsX20)
def wsX4_savedAt : List Cond := .code yX4_savedAt cX4_savedAt 2 (some (.object "LearnedShapes$State")) :: ([.fieldLink RX4 27 "LearnedShapes" "saved" "[LLearnedShapes$State;"] ++ wsX40)
def wsX4_dropOldest : List Cond := .code yX4_dropOldest cX4_dropOldest 3 none :: ([.fieldLink RX4 27 "LearnedShapes" "saved" "[LLearnedShapes$State;", .fieldLink RX4 125 "LearnedShapes" "savedStates" "I", .methodLink RX4 128 yX4_savedAt, .instanceMethod yX4_savedAt, .selects RX4 yX4_savedAt yX4_savedAt, .initialized RX4, .code yX4_savedAt cX4_savedAt 2 (some (.object "LearnedShapes$State"))] ++ wsX40)
def wsX4_saveState_r1 : List Cond := [Cond.fieldLink RX4 125 "LearnedShapes" "savedStates" "I", Cond.fieldLink RX4 27 "LearnedShapes" "saved" "[LLearnedShapes$State;", Cond.fieldLink RX4 23 "LearnedShapes" "now" "LLearnedShapes$State;", Cond.methodLink RX4 211 yX4_dropOldest, Cond.instanceMethod yX4_dropOldest, Cond.selects RX4 yX4_dropOldest yX4_dropOldest, Cond.initialized RX4, Cond.code yX4_dropOldest cX4_dropOldest 3 none, Cond.methodLink RX4 128 yX4_savedAt, Cond.instanceMethod yX4_savedAt, Cond.selects RX4 yX4_savedAt yX4_savedAt, Cond.code yX4_savedAt cX4_savedAt 2 (some (.object "LearnedShapes$State")), Cond.methodLink RX4 134 yX2_copyFrom, Cond.instanceMethod yX2_copyFrom, Cond.selects RX2 yX2_copyFrom yX2_copyFrom, Cond.initialized RX2, Cond.code yX2_copyFrom cX2_copyFrom 2 none, Cond.fieldLink RX2 10 "LearnedShapes$State" "first" "LLearnedShapes$Tree;", Cond.fieldLink RX2 16 "LearnedShapes$State" "second" "LLearnedShapes$Tree;", Cond.fieldLink RX2 23 "LearnedShapes$State" "setting" "I", Cond.methodLink RX2 19 yX3_copyFrom, Cond.instanceMethod yX3_copyFrom, Cond.selects RX3 yX3_copyFrom yX3_copyFrom, Cond.initialized RX3]
def wsX4_saveState_r2 : List Cond := [Cond.code yX3_copyFrom cX3_copyFrom 2 none, Cond.fieldLink RX3 11 "LearnedShapes$Tree" "cells" "[I", Cond.fieldLink RX3 15 "LearnedShapes$Tree" "size" "I", Cond.fieldLink RX3 19 "LearnedShapes$Tree" "documents" "I", Cond.methodLink RX3 22 yX3_moveCells, Cond.static yX3_moveCells, Cond.code yX3_moveCells cX3_moveCells 8 none, Cond.methodLink RX3 26 arraycopyName, Cond.native arraycopyName, Cond.static arraycopyName, Cond.initialized "java/lang/System"]
def wsX4_saveState : List Cond := .code yX4_saveState cX4_saveState 2 none :: ((wsX4_saveState_r1 ++ wsX4_saveState_r2) ++ wsX40 ++ wsX20 ++ wsX30)
def wsX4_takeWork_r1 : List Cond := [Cond.fieldLink RX4 34 "LearnedShapes" "work" "LLearnedShapes$Tree;", Cond.methodLink RX4 214 yX3_markOptional, Cond.instanceMethod yX3_markOptional, Cond.selects RX3 yX3_markOptional yX3_markOptional, Cond.initialized RX3, Cond.code yX3_markOptional cX3_markOptional 5 none, Cond.fieldLink RX3 15 "LearnedShapes$Tree" "size" "I", Cond.methodLink RX3 32 yX3_get, Cond.instanceMethod yX3_get, Cond.selects RX3 yX3_get yX3_get, Cond.code yX3_get cX3_get 5 (some .int), Cond.fieldLink RX3 11 "LearnedShapes$Tree" "cells" "[I", Cond.methodLink RX3 51 yX3_above, Cond.instanceMethod yX3_above, Cond.selects RX3 yX3_above yX3_above, Cond.code yX3_above cX3_above 4 (some .int), Cond.methodLink RX3 48 yX3_put, Cond.instanceMethod yX3_put, Cond.selects RX3 yX3_put yX3_put, Cond.code yX3_put cX3_put 5 none, Cond.methodLink RX4 107 yX3_copyFrom, Cond.instanceMethod yX3_copyFrom, Cond.selects RX3 yX3_copyFrom yX3_copyFrom, Cond.code yX3_copyFrom cX3_copyFrom 2 none]
def wsX4_takeWork_r2 : List Cond := [Cond.fieldLink RX3 19 "LearnedShapes$Tree" "documents" "I", Cond.methodLink RX3 22 yX3_moveCells, Cond.static yX3_moveCells, Cond.code yX3_moveCells cX3_moveCells 8 none, Cond.methodLink RX3 26 arraycopyName, Cond.native arraycopyName, Cond.static arraycopyName, Cond.initialized "java/lang/System"]
def wsX4_takeWork : List Cond := .code yX4_takeWork cX4_takeWork 2 none :: ((wsX4_takeWork_r1 ++ wsX4_takeWork_r2) ++ wsX40 ++ wsX30)
def wsX4_learn_r1 : List Cond := [Cond.classLink RX4 49 "java/lang/IndexOutOfBoundsException", Cond.initialized "java/lang/IndexOutOfBoundsException", Cond.classLink RX4 64 "java/lang/IllegalArgumentException", Cond.initialized "java/lang/IllegalArgumentException", Cond.classLink RX4 81 "java/lang/IllegalStateException", Cond.initialized "java/lang/IllegalStateException", Cond.fieldLink RX4 16 "LearnedShapes" "reader" "LLearnedShapes$Reader;", Cond.fieldLink RX4 9 "LearnedShapes" "codes" "[I", Cond.fieldLink RX4 56 "LearnedShapes" "length" "I", Cond.fieldLink RX4 23 "LearnedShapes" "now" "LLearnedShapes$State;", Cond.fieldLink RX4 92 "LearnedShapes$Tree" "size" "I", Cond.methodLink RX4 45 yX4_isShape, Cond.static yX4_isShape, Cond.initialized RX4, Cond.code yX4_isShape cX4_isShape 1 (some .boolean), Cond.methodLink RX4 60 yX1_read, Cond.instanceMethod yX1_read, Cond.selects RX1 yX1_read yX1_read, Cond.initialized RX1, Cond.code yX1_read cX1_read 4 (some .boolean), Cond.fieldLink RX1 12 "LearnedShapes$Reader" "values" "LLearnedShapes$Tree;", Cond.fieldLink RX1 21 "LearnedShapes$Reader" "state" "I", Cond.fieldLink RX1 25 "LearnedShapes$Reader" "open" "I", Cond.fieldLink RX1 28 "LearnedShapes$Reader" "letter" "I"]
def wsX4_learn_r2 : List Cond := [Cond.fieldLink RX1 31 "LearnedShapes$Reader" "run" "I", Cond.fieldLink RX1 34 "LearnedShapes$Reader" "firstWrong" "I", Cond.fieldLink RX1 37 "LearnedShapes$Reader" "place" "I", Cond.methodLink RX1 18 yX3_clear, Cond.instanceMethod yX3_clear, Cond.selects RX3 yX3_clear yX3_clear, Cond.initialized RX3, Cond.code yX3_clear cX3_clear 1 none, Cond.fieldLink RX3 15 "LearnedShapes$Tree" "size" "I", Cond.fieldLink RX3 19 "LearnedShapes$Tree" "documents" "I", Cond.methodLink RX1 40 yX1_take, Cond.instanceMethod yX1_take, Cond.selects RX1 yX1_take yX1_take, Cond.code yX1_take cX1_take 2 (some .boolean), Cond.methodLink RX1 44 yX1_endsNumber, Cond.instanceMethod yX1_endsNumber, Cond.selects RX1 yX1_endsNumber yX1_endsNumber, Cond.code yX1_endsNumber cX1_endsNumber 4 (some .boolean), Cond.methodLink RX1 70 yX1_isDigit, Cond.static yX1_isDigit, Cond.code yX1_isDigit cX1_isDigit 1 (some .boolean), Cond.methodLink RX1 47 yX1_stateBehindValue, Cond.instanceMethod yX1_stateBehindValue, Cond.selects RX1 yX1_stateBehindValue yX1_stateBehindValue]
def wsX4_learn_r3 : List Cond := [Cond.code yX1_stateBehindValue cX1_stateBehindValue 1 (some .int), Cond.methodLink RX1 73 yX3_get, Cond.instanceMethod yX3_get, Cond.selects RX3 yX3_get yX3_get, Cond.code yX3_get cX3_get 5 (some .int), Cond.fieldLink RX3 11 "LearnedShapes$Tree" "cells" "[I", Cond.methodLink RX1 51 yX1_takeValue, Cond.instanceMethod yX1_takeValue, Cond.selects RX1 yX1_takeValue yX1_takeValue, Cond.code yX1_takeValue cX1_takeValue 6 (some .boolean), Cond.methodLink RX1 81 yX1_kindAt, Cond.static yX1_kindAt, Cond.code yX1_kindAt cX1_kindAt 1 (some .int), Cond.methodLink RX1 85 yX1_depthOfNext, Cond.instanceMethod yX1_depthOfNext, Cond.selects RX1 yX1_depthOfNext yX1_depthOfNext, Cond.code yX1_depthOfNext cX1_depthOfNext 1 (some .int), Cond.methodLink RX1 88 yX3_addRow, Cond.instanceMethod yX3_addRow, Cond.selects RX3 yX3_addRow yX3_addRow, Cond.code yX3_addRow cX3_addRow 3 (some .int), Cond.methodLink RX3 44 yX3_startRow, Cond.instanceMethod yX3_startRow, Cond.selects RX3 yX3_startRow yX3_startRow]
def wsX4_learn_r4 : List Cond := [Cond.code yX3_startRow cX3_startRow 5 none, Cond.methodLink RX3 48 yX3_put, Cond.instanceMethod yX3_put, Cond.selects RX3 yX3_put yX3_put, Cond.code yX3_put cX3_put 5 none, Cond.methodLink RX1 77 yX3_put, Cond.methodLink RX1 91 yX1_stateInValue, Cond.instanceMethod yX1_stateInValue, Cond.selects RX1 yX1_stateInValue yX1_stateInValue, Cond.code yX1_stateInValue cX1_stateInValue 3 (some .int), Cond.methodLink RX1 54 yX1_takePart, Cond.instanceMethod yX1_takePart, Cond.selects RX1 yX1_takePart yX1_takePart, Cond.code yX1_takePart cX1_takePart 4 (some .boolean), Cond.methodLink RX1 57 yX1_closeValue, Cond.instanceMethod yX1_closeValue, Cond.selects RX1 yX1_closeValue yX1_closeValue, Cond.code yX1_closeValue cX1_closeValue 1 (some .boolean), Cond.methodLink RX1 61 yX1_takeComma, Cond.instanceMethod yX1_takeComma, Cond.selects RX1 yX1_takeComma yX1_takeComma, Cond.code yX1_takeComma cX1_takeComma 2 (some .boolean), Cond.methodLink RX1 64 yX1_takeInWord, Cond.instanceMethod yX1_takeInWord]
def wsX4_learn_r5 : List Cond := [Cond.selects RX1 yX1_takeInWord yX1_takeInWord, Cond.code yX1_takeInWord cX1_takeInWord 2 (some .boolean), Cond.methodLink RX1 67 yX1_takeInNumber, Cond.instanceMethod yX1_takeInNumber, Cond.selects RX1 yX1_takeInNumber yX1_takeInNumber, Cond.code yX1_takeInNumber cX1_takeInNumber 2 (some .boolean), Cond.methodLink RX1 94 yX1_takePoint, Cond.instanceMethod yX1_takePoint, Cond.selects RX1 yX1_takePoint yX1_takePoint, Cond.code yX1_takePoint cX1_takePoint 2 (some .boolean), Cond.fieldLink RX1 97 "LearnedShapes$Tree" "size" "I", Cond.methodLink RX4 69 yX2_tree, Cond.instanceMethod yX2_tree, Cond.selects RX2 yX2_tree yX2_tree, Cond.initialized RX2, Cond.code yX2_tree cX2_tree 2 (some (.object "LearnedShapes$Tree")), Cond.fieldLink RX2 10 "LearnedShapes$State" "first" "LLearnedShapes$Tree;", Cond.fieldLink RX2 16 "LearnedShapes$State" "second" "LLearnedShapes$Tree;", Cond.methodLink RX4 73 yX4_workOutLearned, Cond.instanceMethod yX4_workOutLearned, Cond.selects RX4 yX4_workOutLearned yX4_workOutLearned, Cond.code yX4_workOutLearned cX4_workOutLearned 5 none, Cond.fieldLink RX4 34 "LearnedShapes" "work" "LLearnedShapes$Tree;", Cond.fieldLink RX4 226 "LearnedShapes$Tree" "documents" "I"]
def wsX4_learn_r6 : List Cond := [Cond.methodLink RX4 107 yX3_copyFrom, Cond.instanceMethod yX3_copyFrom, Cond.selects RX3 yX3_copyFrom yX3_copyFrom, Cond.code yX3_copyFrom cX3_copyFrom 2 none, Cond.methodLink RX3 22 yX3_moveCells, Cond.static yX3_moveCells, Cond.code yX3_moveCells cX3_moveCells 8 none, Cond.methodLink RX3 26 arraycopyName, Cond.native arraycopyName, Cond.static arraycopyName, Cond.initialized "java/lang/System", Cond.methodLink RX4 245 yX3_put, Cond.methodLink RX4 249 yX4_showValue, Cond.instanceMethod yX4_showValue, Cond.selects RX4 yX4_showValue yX4_showValue, Cond.code yX4_showValue cX4_showValue 10 none, Cond.methodLink RX4 217 yX3_get, Cond.methodLink RX4 150 yX3_findBelow, Cond.instanceMethod yX3_findBelow, Cond.selects RX3 yX3_findBelow yX3_findBelow, Cond.code yX3_findBelow cX3_findBelow 5 (some .int), Cond.methodLink RX3 40 yX3_has, Cond.instanceMethod yX3_has, Cond.selects RX3 yX3_has yX3_has]
def wsX4_learn_r7 : List Cond := [Cond.code yX3_has cX3_has 2 (some .boolean), Cond.methodLink RX3 32 yX3_get, Cond.methodLink RX4 253 yX3_insertBelow, Cond.instanceMethod yX3_insertBelow, Cond.selects RX3 yX3_insertBelow yX3_insertBelow, Cond.code yX3_insertBelow cX3_insertBelow 5 (some .int), Cond.methodLink RX4 256 yX4_joinKinds, Cond.static yX4_joinKinds, Cond.code yX4_joinKinds cX4_joinKinds 2 (some .int), Cond.methodLink RX4 259 yX3_dropBelow, Cond.instanceMethod yX3_dropBelow, Cond.selects RX3 yX3_dropBelow yX3_dropBelow, Cond.code yX3_dropBelow cX3_dropBelow 3 none, Cond.methodLink RX3 36 yX3_behind, Cond.instanceMethod yX3_behind, Cond.selects RX3 yX3_behind yX3_behind, Cond.code yX3_behind cX3_behind 4 (some .int), Cond.methodLink RX4 77 yX4_isRefused, Cond.instanceMethod yX4_isRefused, Cond.selects RX4 yX4_isRefused yX4_isRefused, Cond.code yX4_isRefused cX4_isRefused 2 (some .boolean), Cond.fieldLink RX4 115 "LearnedShapes$State" "setting" "I", Cond.methodLink RX4 263 yX4_bringsAny, Cond.instanceMethod yX4_bringsAny]
def wsX4_learn_r8 : List Cond := [Cond.selects RX4 yX4_bringsAny yX4_bringsAny, Cond.code yX4_bringsAny cX4_bringsAny 4 (some .boolean), Cond.methodLink RX4 86 yX4_saveState, Cond.instanceMethod yX4_saveState, Cond.selects RX4 yX4_saveState yX4_saveState, Cond.code yX4_saveState cX4_saveState 2 none, Cond.fieldLink RX4 125 "LearnedShapes" "savedStates" "I", Cond.fieldLink RX4 27 "LearnedShapes" "saved" "[LLearnedShapes$State;", Cond.methodLink RX4 211 yX4_dropOldest, Cond.instanceMethod yX4_dropOldest, Cond.selects RX4 yX4_dropOldest yX4_dropOldest, Cond.code yX4_dropOldest cX4_dropOldest 3 none, Cond.methodLink RX4 128 yX4_savedAt, Cond.instanceMethod yX4_savedAt, Cond.selects RX4 yX4_savedAt yX4_savedAt, Cond.code yX4_savedAt cX4_savedAt 2 (some (.object "LearnedShapes$State")), Cond.methodLink RX4 134 yX2_copyFrom, Cond.instanceMethod yX2_copyFrom, Cond.selects RX2 yX2_copyFrom yX2_copyFrom, Cond.code yX2_copyFrom cX2_copyFrom 2 none, Cond.fieldLink RX2 23 "LearnedShapes$State" "setting" "I", Cond.methodLink RX2 19 yX3_copyFrom, Cond.methodLink RX4 89 yX4_takeWork, Cond.instanceMethod yX4_takeWork]
def wsX4_learn_r9 : List Cond := [Cond.selects RX4 yX4_takeWork yX4_takeWork, Cond.code yX4_takeWork cX4_takeWork 2 none, Cond.methodLink RX4 214 yX3_markOptional, Cond.instanceMethod yX3_markOptional, Cond.selects RX3 yX3_markOptional yX3_markOptional, Cond.code yX3_markOptional cX3_markOptional 5 none, Cond.methodLink RX3 51 yX3_above, Cond.instanceMethod yX3_above, Cond.selects RX3 yX3_above yX3_above, Cond.code yX3_above cX3_above 4 (some .int)]
def wsX4_learn : List Cond := .code yX4_learn cX4_learn 3 (some .int) :: ((wsX4_learn_r1 ++ (wsX4_learn_r2 ++ (wsX4_learn_r3 ++ (wsX4_learn_r4 ++ (wsX4_learn_r5 ++ (wsX4_learn_r6 ++ (wsX4_learn_r7 ++ (wsX4_learn_r8 ++ wsX4_learn_r9)))))))) ++ wsX40 ++ wsX30 ++ wsX10 ++ wsX20 ++ (vx_atS RX4 53 "java/lang/IndexOutOfBoundsException" ["java/lang/RuntimeException", "java/lang/Exception"]).filter goodWord ++ (vx_atS RX4 68 "java/lang/IllegalArgumentException" ["java/lang/RuntimeException", "java/lang/Exception"]).filter goodWord ++ (vx_atS RX4 85 "java/lang/IllegalStateException" ["java/lang/RuntimeException", "java/lang/Exception"]).filter goodWord)
def wsX4_joinNodes_r1 : List Cond := [Cond.methodLink RX4 229 Lib.Math.max.name, Cond.static Lib.Math.max.name, Cond.initialized "java/lang/Math", Cond.code Lib.Math.max.name Lib.Math.max.code 2 (some .int), Cond.fieldLink RX4 226 "LearnedShapes$Tree" "documents" "I", Cond.methodLink RX4 217 yX3_get, Cond.instanceMethod yX3_get, Cond.selects RX3 yX3_get yX3_get, Cond.initialized RX3, Cond.code yX3_get cX3_get 5 (some .int), Cond.fieldLink RX3 15 "LearnedShapes$Tree" "size" "I", Cond.fieldLink RX3 11 "LearnedShapes$Tree" "cells" "[I", Cond.methodLink RX4 256 yX4_joinKinds, Cond.static yX4_joinKinds, Cond.initialized RX4, Cond.code yX4_joinKinds cX4_joinKinds 2 (some .int), Cond.methodLink RX4 270 yX3_addRow, Cond.instanceMethod yX3_addRow, Cond.selects RX3 yX3_addRow yX3_addRow, Cond.code yX3_addRow cX3_addRow 3 (some .int), Cond.methodLink RX3 44 yX3_startRow, Cond.instanceMethod yX3_startRow, Cond.selects RX3 yX3_startRow yX3_startRow, Cond.code yX3_startRow cX3_startRow 5 none]
def wsX4_joinNodes_r2 : List Cond := [Cond.methodLink RX3 48 yX3_put, Cond.instanceMethod yX3_put, Cond.selects RX3 yX3_put yX3_put, Cond.code yX3_put cX3_put 5 none, Cond.methodLink RX4 245 yX3_put, Cond.methodLink RX4 150 yX3_findBelow, Cond.instanceMethod yX3_findBelow, Cond.selects RX3 yX3_findBelow yX3_findBelow, Cond.code yX3_findBelow cX3_findBelow 5 (some .int), Cond.methodLink RX3 40 yX3_has, Cond.instanceMethod yX3_has, Cond.selects RX3 yX3_has yX3_has, Cond.code yX3_has cX3_has 2 (some .boolean), Cond.methodLink RX3 32 yX3_get, Cond.methodLink RX4 266 yX4_joinNodes, Cond.static yX4_joinNodes]
def wsX4_joinNodes : List Cond := .code yX4_joinNodes cX4_joinNodes 15 none :: ((wsX4_joinNodes_r1 ++ wsX4_joinNodes_r2) ++ wsX30)
def wsX4_workOutJoined_r1 : List Cond := [Cond.fieldLink RX4 34 "LearnedShapes" "work" "LLearnedShapes$Tree;", Cond.fieldLink RX4 226 "LearnedShapes$Tree" "documents" "I", Cond.fieldLink RX4 92 "LearnedShapes$Tree" "size" "I", Cond.methodLink RX4 101 yX3_clear, Cond.instanceMethod yX3_clear, Cond.selects RX3 yX3_clear yX3_clear, Cond.initialized RX3, Cond.code yX3_clear cX3_clear 1 none, Cond.fieldLink RX3 15 "LearnedShapes$Tree" "size" "I", Cond.fieldLink RX3 19 "LearnedShapes$Tree" "documents" "I", Cond.methodLink RX4 266 yX4_joinNodes, Cond.static yX4_joinNodes, Cond.initialized RX4, Cond.code yX4_joinNodes cX4_joinNodes 15 none, Cond.methodLink RX4 229 Lib.Math.max.name, Cond.static Lib.Math.max.name, Cond.initialized "java/lang/Math", Cond.code Lib.Math.max.name Lib.Math.max.code 2 (some .int), Cond.methodLink RX4 217 yX3_get, Cond.instanceMethod yX3_get, Cond.selects RX3 yX3_get yX3_get, Cond.code yX3_get cX3_get 5 (some .int), Cond.fieldLink RX3 11 "LearnedShapes$Tree" "cells" "[I", Cond.methodLink RX4 256 yX4_joinKinds]
def wsX4_workOutJoined_r2 : List Cond := [Cond.static yX4_joinKinds, Cond.code yX4_joinKinds cX4_joinKinds 2 (some .int), Cond.methodLink RX4 270 yX3_addRow, Cond.instanceMethod yX3_addRow, Cond.selects RX3 yX3_addRow yX3_addRow, Cond.code yX3_addRow cX3_addRow 3 (some .int), Cond.methodLink RX3 44 yX3_startRow, Cond.instanceMethod yX3_startRow, Cond.selects RX3 yX3_startRow yX3_startRow, Cond.code yX3_startRow cX3_startRow 5 none, Cond.methodLink RX3 48 yX3_put, Cond.instanceMethod yX3_put, Cond.selects RX3 yX3_put yX3_put, Cond.code yX3_put cX3_put 5 none, Cond.methodLink RX4 245 yX3_put, Cond.methodLink RX4 150 yX3_findBelow, Cond.instanceMethod yX3_findBelow, Cond.selects RX3 yX3_findBelow yX3_findBelow, Cond.code yX3_findBelow cX3_findBelow 5 (some .int), Cond.methodLink RX3 40 yX3_has, Cond.instanceMethod yX3_has, Cond.selects RX3 yX3_has yX3_has, Cond.code yX3_has cX3_has 2 (some .boolean), Cond.methodLink RX3 32 yX3_get]
def wsX4_workOutJoined : List Cond := .code yX4_workOutJoined cX4_workOutJoined 3 none :: ((wsX4_workOutJoined_r1 ++ wsX4_workOutJoined_r2) ++ wsX40 ++ wsX30)
def wsX4_join_r1 : List Cond := [Cond.classLink RX4 49 "java/lang/IndexOutOfBoundsException", Cond.initialized "java/lang/IndexOutOfBoundsException", Cond.classLink RX4 81 "java/lang/IllegalStateException", Cond.initialized "java/lang/IllegalStateException", Cond.fieldLink RX4 23 "LearnedShapes" "now" "LLearnedShapes$State;", Cond.fieldLink RX4 34 "LearnedShapes" "work" "LLearnedShapes$Tree;", Cond.fieldLink RX4 92 "LearnedShapes$Tree" "size" "I", Cond.methodLink RX4 45 yX4_isShape, Cond.static yX4_isShape, Cond.initialized RX4, Cond.code yX4_isShape cX4_isShape 1 (some .boolean), Cond.methodLink RX4 69 yX2_tree, Cond.instanceMethod yX2_tree, Cond.selects RX2 yX2_tree yX2_tree, Cond.initialized RX2, Cond.code yX2_tree cX2_tree 2 (some (.object "LearnedShapes$Tree")), Cond.fieldLink RX2 10 "LearnedShapes$State" "first" "LLearnedShapes$Tree;", Cond.fieldLink RX2 16 "LearnedShapes$State" "second" "LLearnedShapes$Tree;", Cond.methodLink RX4 95 yX4_workOutJoined, Cond.instanceMethod yX4_workOutJoined, Cond.selects RX4 yX4_workOutJoined yX4_workOutJoined, Cond.code yX4_workOutJoined cX4_workOutJoined 3 none, Cond.fieldLink RX4 226 "LearnedShapes$Tree" "documents" "I", Cond.methodLink RX4 101 yX3_clear]
def wsX4_join_r2 : List Cond := [Cond.instanceMethod yX3_clear, Cond.selects RX3 yX3_clear yX3_clear, Cond.initialized RX3, Cond.code yX3_clear cX3_clear 1 none, Cond.fieldLink RX3 15 "LearnedShapes$Tree" "size" "I", Cond.fieldLink RX3 19 "LearnedShapes$Tree" "documents" "I", Cond.methodLink RX4 266 yX4_joinNodes, Cond.static yX4_joinNodes, Cond.code yX4_joinNodes cX4_joinNodes 15 none, Cond.methodLink RX4 229 Lib.Math.max.name, Cond.static Lib.Math.max.name, Cond.initialized "java/lang/Math", Cond.code Lib.Math.max.name Lib.Math.max.code 2 (some .int), Cond.methodLink RX4 217 yX3_get, Cond.instanceMethod yX3_get, Cond.selects RX3 yX3_get yX3_get, Cond.code yX3_get cX3_get 5 (some .int), Cond.fieldLink RX3 11 "LearnedShapes$Tree" "cells" "[I", Cond.methodLink RX4 256 yX4_joinKinds, Cond.static yX4_joinKinds, Cond.code yX4_joinKinds cX4_joinKinds 2 (some .int), Cond.methodLink RX4 270 yX3_addRow, Cond.instanceMethod yX3_addRow, Cond.selects RX3 yX3_addRow yX3_addRow]
def wsX4_join_r3 : List Cond := [Cond.code yX3_addRow cX3_addRow 3 (some .int), Cond.methodLink RX3 44 yX3_startRow, Cond.instanceMethod yX3_startRow, Cond.selects RX3 yX3_startRow yX3_startRow, Cond.code yX3_startRow cX3_startRow 5 none, Cond.methodLink RX3 48 yX3_put, Cond.instanceMethod yX3_put, Cond.selects RX3 yX3_put yX3_put, Cond.code yX3_put cX3_put 5 none, Cond.methodLink RX4 245 yX3_put, Cond.methodLink RX4 150 yX3_findBelow, Cond.instanceMethod yX3_findBelow, Cond.selects RX3 yX3_findBelow yX3_findBelow, Cond.code yX3_findBelow cX3_findBelow 5 (some .int), Cond.methodLink RX3 40 yX3_has, Cond.instanceMethod yX3_has, Cond.selects RX3 yX3_has yX3_has, Cond.code yX3_has cX3_has 2 (some .boolean), Cond.methodLink RX3 32 yX3_get, Cond.methodLink RX4 86 yX4_saveState, Cond.instanceMethod yX4_saveState, Cond.selects RX4 yX4_saveState yX4_saveState, Cond.code yX4_saveState cX4_saveState 2 none, Cond.fieldLink RX4 125 "LearnedShapes" "savedStates" "I"]
def wsX4_join_r4 : List Cond := [Cond.fieldLink RX4 27 "LearnedShapes" "saved" "[LLearnedShapes$State;", Cond.methodLink RX4 211 yX4_dropOldest, Cond.instanceMethod yX4_dropOldest, Cond.selects RX4 yX4_dropOldest yX4_dropOldest, Cond.code yX4_dropOldest cX4_dropOldest 3 none, Cond.methodLink RX4 128 yX4_savedAt, Cond.instanceMethod yX4_savedAt, Cond.selects RX4 yX4_savedAt yX4_savedAt, Cond.code yX4_savedAt cX4_savedAt 2 (some (.object "LearnedShapes$State")), Cond.methodLink RX4 134 yX2_copyFrom, Cond.instanceMethod yX2_copyFrom, Cond.selects RX2 yX2_copyFrom yX2_copyFrom, Cond.code yX2_copyFrom cX2_copyFrom 2 none, Cond.fieldLink RX2 23 "LearnedShapes$State" "setting" "I", Cond.methodLink RX2 19 yX3_copyFrom, Cond.instanceMethod yX3_copyFrom, Cond.selects RX3 yX3_copyFrom yX3_copyFrom, Cond.code yX3_copyFrom cX3_copyFrom 2 none, Cond.methodLink RX3 22 yX3_moveCells, Cond.static yX3_moveCells, Cond.code yX3_moveCells cX3_moveCells 8 none, Cond.methodLink RX3 26 arraycopyName, Cond.native arraycopyName, Cond.static arraycopyName]
def wsX4_join_r5 : List Cond := [Cond.initialized "java/lang/System", Cond.methodLink RX4 89 yX4_takeWork, Cond.instanceMethod yX4_takeWork, Cond.selects RX4 yX4_takeWork yX4_takeWork, Cond.code yX4_takeWork cX4_takeWork 2 none, Cond.methodLink RX4 214 yX3_markOptional, Cond.instanceMethod yX3_markOptional, Cond.selects RX3 yX3_markOptional yX3_markOptional, Cond.code yX3_markOptional cX3_markOptional 5 none, Cond.methodLink RX3 51 yX3_above, Cond.instanceMethod yX3_above, Cond.selects RX3 yX3_above yX3_above, Cond.code yX3_above cX3_above 4 (some .int), Cond.methodLink RX4 107 yX3_copyFrom]
def wsX4_join : List Cond := .code yX4_join cX4_join 3 (some .int) :: ((wsX4_join_r1 ++ (wsX4_join_r2 ++ (wsX4_join_r3 ++ (wsX4_join_r4 ++ wsX4_join_r5)))) ++ wsX40 ++ wsX30 ++ wsX20 ++ (vx_atS RX4 53 "java/lang/IndexOutOfBoundsException" ["java/lang/RuntimeException", "java/lang/Exception"]).filter goodWord ++ (vx_atS RX4 85 "java/lang/IllegalStateException" ["java/lang/RuntimeException", "java/lang/Exception"]).filter goodWord)
def wsX4_forget_r1 : List Cond := [Cond.classLink RX4 49 "java/lang/IndexOutOfBoundsException", Cond.initialized "java/lang/IndexOutOfBoundsException", Cond.fieldLink RX4 23 "LearnedShapes" "now" "LLearnedShapes$State;", Cond.fieldLink RX4 92 "LearnedShapes$Tree" "size" "I", Cond.methodLink RX4 45 yX4_isShape, Cond.static yX4_isShape, Cond.initialized RX4, Cond.code yX4_isShape cX4_isShape 1 (some .boolean), Cond.methodLink RX4 86 yX4_saveState, Cond.instanceMethod yX4_saveState, Cond.selects RX4 yX4_saveState yX4_saveState, Cond.code yX4_saveState cX4_saveState 2 none, Cond.fieldLink RX4 125 "LearnedShapes" "savedStates" "I", Cond.fieldLink RX4 27 "LearnedShapes" "saved" "[LLearnedShapes$State;", Cond.methodLink RX4 211 yX4_dropOldest, Cond.instanceMethod yX4_dropOldest, Cond.selects RX4 yX4_dropOldest yX4_dropOldest, Cond.code yX4_dropOldest cX4_dropOldest 3 none, Cond.methodLink RX4 128 yX4_savedAt, Cond.instanceMethod yX4_savedAt, Cond.selects RX4 yX4_savedAt yX4_savedAt, Cond.code yX4_savedAt cX4_savedAt 2 (some (.object "LearnedShapes$State")), Cond.methodLink RX4 134 yX2_copyFrom, Cond.instanceMethod yX2_copyFrom]
def wsX4_forget_r2 : List Cond := [Cond.selects RX2 yX2_copyFrom yX2_copyFrom, Cond.initialized RX2, Cond.code yX2_copyFrom cX2_copyFrom 2 none, Cond.fieldLink RX2 10 "LearnedShapes$State" "first" "LLearnedShapes$Tree;", Cond.fieldLink RX2 16 "LearnedShapes$State" "second" "LLearnedShapes$Tree;", Cond.fieldLink RX2 23 "LearnedShapes$State" "setting" "I", Cond.methodLink RX2 19 yX3_copyFrom, Cond.instanceMethod yX3_copyFrom, Cond.selects RX3 yX3_copyFrom yX3_copyFrom, Cond.initialized RX3, Cond.code yX3_copyFrom cX3_copyFrom 2 none, Cond.fieldLink RX3 11 "LearnedShapes$Tree" "cells" "[I", Cond.fieldLink RX3 15 "LearnedShapes$Tree" "size" "I", Cond.fieldLink RX3 19 "LearnedShapes$Tree" "documents" "I", Cond.methodLink RX3 22 yX3_moveCells, Cond.static yX3_moveCells, Cond.code yX3_moveCells cX3_moveCells 8 none, Cond.methodLink RX3 26 arraycopyName, Cond.native arraycopyName, Cond.static arraycopyName, Cond.initialized "java/lang/System", Cond.methodLink RX4 69 yX2_tree, Cond.instanceMethod yX2_tree, Cond.selects RX2 yX2_tree yX2_tree]
def wsX4_forget_r3 : List Cond := [Cond.code yX2_tree cX2_tree 2 (some (.object "LearnedShapes$Tree")), Cond.methodLink RX4 101 yX3_clear, Cond.instanceMethod yX3_clear, Cond.selects RX3 yX3_clear yX3_clear, Cond.code yX3_clear cX3_clear 1 none]
def wsX4_forget : List Cond := .code yX4_forget cX4_forget 4 (some .int) :: ((wsX4_forget_r1 ++ (wsX4_forget_r2 ++ wsX4_forget_r3)) ++ wsX40 ++ wsX30 ++ wsX20 ++ (vx_atS RX4 53 "java/lang/IndexOutOfBoundsException" ["java/lang/RuntimeException", "java/lang/Exception"]).filter goodWord)
def wsX4_swap_r1 : List Cond := [Cond.fieldLink RX4 34 "LearnedShapes" "work" "LLearnedShapes$Tree;", Cond.fieldLink RX4 23 "LearnedShapes" "now" "LLearnedShapes$State;", Cond.fieldLink RX4 104 "LearnedShapes$State" "first" "LLearnedShapes$Tree;", Cond.fieldLink RX4 110 "LearnedShapes$State" "second" "LLearnedShapes$Tree;", Cond.fieldLink RX4 92 "LearnedShapes$Tree" "size" "I", Cond.methodLink RX4 86 yX4_saveState, Cond.instanceMethod yX4_saveState, Cond.selects RX4 yX4_saveState yX4_saveState, Cond.initialized RX4, Cond.code yX4_saveState cX4_saveState 2 none, Cond.fieldLink RX4 125 "LearnedShapes" "savedStates" "I", Cond.fieldLink RX4 27 "LearnedShapes" "saved" "[LLearnedShapes$State;", Cond.methodLink RX4 211 yX4_dropOldest, Cond.instanceMethod yX4_dropOldest, Cond.selects RX4 yX4_dropOldest yX4_dropOldest, Cond.code yX4_dropOldest cX4_dropOldest 3 none, Cond.methodLink RX4 128 yX4_savedAt, Cond.instanceMethod yX4_savedAt, Cond.selects RX4 yX4_savedAt yX4_savedAt, Cond.code yX4_savedAt cX4_savedAt 2 (some (.object "LearnedShapes$State")), Cond.methodLink RX4 134 yX2_copyFrom, Cond.instanceMethod yX2_copyFrom, Cond.selects RX2 yX2_copyFrom yX2_copyFrom, Cond.initialized RX2]
def wsX4_swap_r2 : List Cond := [Cond.code yX2_copyFrom cX2_copyFrom 2 none, Cond.fieldLink RX2 10 "LearnedShapes$State" "first" "LLearnedShapes$Tree;", Cond.fieldLink RX2 16 "LearnedShapes$State" "second" "LLearnedShapes$Tree;", Cond.fieldLink RX2 23 "LearnedShapes$State" "setting" "I", Cond.methodLink RX2 19 yX3_copyFrom, Cond.instanceMethod yX3_copyFrom, Cond.selects RX3 yX3_copyFrom yX3_copyFrom, Cond.initialized RX3, Cond.code yX3_copyFrom cX3_copyFrom 2 none, Cond.fieldLink RX3 11 "LearnedShapes$Tree" "cells" "[I", Cond.fieldLink RX3 15 "LearnedShapes$Tree" "size" "I", Cond.fieldLink RX3 19 "LearnedShapes$Tree" "documents" "I", Cond.methodLink RX3 22 yX3_moveCells, Cond.static yX3_moveCells, Cond.code yX3_moveCells cX3_moveCells 8 none, Cond.methodLink RX3 26 arraycopyName, Cond.native arraycopyName, Cond.static arraycopyName, Cond.initialized "java/lang/System", Cond.methodLink RX4 107 yX3_copyFrom]
def wsX4_swap : List Cond := .code yX4_swap cX4_swap 1 (some .int) :: ((wsX4_swap_r1 ++ wsX4_swap_r2) ++ wsX40 ++ wsX20 ++ wsX30)
def wsX4_set_r1 : List Cond := [Cond.classLink RX4 64 "java/lang/IllegalArgumentException", Cond.initialized "java/lang/IllegalArgumentException", Cond.fieldLink RX4 23 "LearnedShapes" "now" "LLearnedShapes$State;", Cond.fieldLink RX4 115 "LearnedShapes$State" "setting" "I", Cond.methodLink RX4 86 yX4_saveState, Cond.instanceMethod yX4_saveState, Cond.selects RX4 yX4_saveState yX4_saveState, Cond.initialized RX4, Cond.code yX4_saveState cX4_saveState 2 none, Cond.fieldLink RX4 125 "LearnedShapes" "savedStates" "I", Cond.fieldLink RX4 27 "LearnedShapes" "saved" "[LLearnedShapes$State;", Cond.methodLink RX4 211 yX4_dropOldest, Cond.instanceMethod yX4_dropOldest, Cond.selects RX4 yX4_dropOldest yX4_dropOldest, Cond.code yX4_dropOldest cX4_dropOldest 3 none, Cond.methodLink RX4 128 yX4_savedAt, Cond.instanceMethod yX4_savedAt, Cond.selects RX4 yX4_savedAt yX4_savedAt, Cond.code yX4_savedAt cX4_savedAt 2 (some (.object "LearnedShapes$State")), Cond.methodLink RX4 134 yX2_copyFrom, Cond.instanceMethod yX2_copyFrom, Cond.selects RX2 yX2_copyFrom yX2_copyFrom, Cond.initialized RX2, Cond.code yX2_copyFrom cX2_copyFrom 2 none]
def wsX4_set_r2 : List Cond := [Cond.fieldLink RX2 10 "LearnedShapes$State" "first" "LLearnedShapes$Tree;", Cond.fieldLink RX2 16 "LearnedShapes$State" "second" "LLearnedShapes$Tree;", Cond.fieldLink RX2 23 "LearnedShapes$State" "setting" "I", Cond.methodLink RX2 19 yX3_copyFrom, Cond.instanceMethod yX3_copyFrom, Cond.selects RX3 yX3_copyFrom yX3_copyFrom, Cond.initialized RX3, Cond.code yX3_copyFrom cX3_copyFrom 2 none, Cond.fieldLink RX3 11 "LearnedShapes$Tree" "cells" "[I", Cond.fieldLink RX3 15 "LearnedShapes$Tree" "size" "I", Cond.fieldLink RX3 19 "LearnedShapes$Tree" "documents" "I", Cond.methodLink RX3 22 yX3_moveCells, Cond.static yX3_moveCells, Cond.code yX3_moveCells cX3_moveCells 8 none, Cond.methodLink RX3 26 arraycopyName, Cond.native arraycopyName, Cond.static arraycopyName, Cond.initialized "java/lang/System"]
def wsX4_set : List Cond := .code yX4_set cX4_set 3 (some .int) :: ((wsX4_set_r1 ++ wsX4_set_r2) ++ wsX40 ++ wsX20 ++ wsX30 ++ (vx_atS RX4 68 "java/lang/IllegalArgumentException" ["java/lang/RuntimeException", "java/lang/Exception"]).filter goodWord)
def wsX4_append : List Cond := .code yX4_append cX4_append 2 (some .int) :: ([.classLink RX4 64 "java/lang/IllegalArgumentException", .initialized "java/lang/IllegalArgumentException", .classLink RX4 81 "java/lang/IllegalStateException", .initialized "java/lang/IllegalStateException", .fieldLink RX4 56 "LearnedShapes" "length" "I", .fieldLink RX4 9 "LearnedShapes" "codes" "[I"] ++ wsX40 ++ (vx_atS RX4 68 "java/lang/IllegalArgumentException" ["java/lang/RuntimeException", "java/lang/Exception"]).filter goodWord ++ (vx_atS RX4 85 "java/lang/IllegalStateException" ["java/lang/RuntimeException", "java/lang/Exception"]).filter goodWord)
def wsX4_clearBuffer : List Cond := .code yX4_clearBuffer cX4_clearBuffer 2 (some .int) :: ([.fieldLink RX4 56 "LearnedShapes" "length" "I"] ++ wsX40)
def wsX4_undo_r1 : List Cond := [Cond.classLink RX4 81 "java/lang/IllegalStateException", Cond.initialized "java/lang/IllegalStateException", Cond.fieldLink RX4 125 "LearnedShapes" "savedStates" "I", Cond.fieldLink RX4 23 "LearnedShapes" "now" "LLearnedShapes$State;", Cond.methodLink RX4 128 yX4_savedAt, Cond.instanceMethod yX4_savedAt, Cond.selects RX4 yX4_savedAt yX4_savedAt, Cond.initialized RX4, Cond.code yX4_savedAt cX4_savedAt 2 (some (.object "LearnedShapes$State")), Cond.fieldLink RX4 27 "LearnedShapes" "saved" "[LLearnedShapes$State;", Cond.methodLink RX4 134 yX2_copyFrom, Cond.instanceMethod yX2_copyFrom, Cond.selects RX2 yX2_copyFrom yX2_copyFrom, Cond.initialized RX2, Cond.code yX2_copyFrom cX2_copyFrom 2 none, Cond.fieldLink RX2 10 "LearnedShapes$State" "first" "LLearnedShapes$Tree;", Cond.fieldLink RX2 16 "LearnedShapes$State" "second" "LLearnedShapes$Tree;", Cond.fieldLink RX2 23 "LearnedShapes$State" "setting" "I", Cond.methodLink RX2 19 yX3_copyFrom, Cond.instanceMethod yX3_copyFrom, Cond.selects RX3 yX3_copyFrom yX3_copyFrom, Cond.initialized RX3, Cond.code yX3_copyFrom cX3_copyFrom 2 none, Cond.fieldLink RX3 11 "LearnedShapes$Tree" "cells" "[I"]
def wsX4_undo_r2 : List Cond := [Cond.fieldLink RX3 15 "LearnedShapes$Tree" "size" "I", Cond.fieldLink RX3 19 "LearnedShapes$Tree" "documents" "I", Cond.methodLink RX3 22 yX3_moveCells, Cond.static yX3_moveCells, Cond.code yX3_moveCells cX3_moveCells 8 none, Cond.methodLink RX3 26 arraycopyName, Cond.native arraycopyName, Cond.static arraycopyName, Cond.initialized "java/lang/System"]
def wsX4_undo : List Cond := .code yX4_undo cX4_undo 2 (some .int) :: ((wsX4_undo_r1 ++ wsX4_undo_r2) ++ wsX40 ++ wsX20 ++ wsX30 ++ (vx_atS RX4 85 "java/lang/IllegalStateException" ["java/lang/RuntimeException", "java/lang/Exception"]).filter goodWord)
def wsX4_nodeNumber : List Cond := .code yX4_nodeNumber cX4_nodeNumber 3 (some .int) :: ([.methodLink RX4 217 yX3_get, .instanceMethod yX3_get, .selects RX3 yX3_get yX3_get, .initialized RX3, .code yX3_get cX3_get 5 (some .int), .fieldLink RX3 15 "LearnedShapes$Tree" "size" "I", .fieldLink RX3 11 "LearnedShapes$Tree" "cells" "[I", .methodLink RX4 220 yX3_above, .instanceMethod yX3_above, .selects RX3 yX3_above yX3_above, .code yX3_above cX3_above 4 (some .int), .methodLink RX3 32 yX3_get, .methodLink RX4 223 yX3_countBelow, .instanceMethod yX3_countBelow, .selects RX3 yX3_countBelow yX3_countBelow, .code yX3_countBelow cX3_countBelow 6 (some .int), .methodLink RX3 36 yX3_behind, .instanceMethod yX3_behind, .selects RX3 yX3_behind yX3_behind, .code yX3_behind cX3_behind 4 (some .int)] ++ wsX30)
def wsX4_node_r1 : List Cond := [Cond.classLink RX4 49 "java/lang/IndexOutOfBoundsException", Cond.initialized "java/lang/IndexOutOfBoundsException", Cond.classLink RX4 64 "java/lang/IllegalArgumentException", Cond.initialized "java/lang/IllegalArgumentException", Cond.fieldLink RX4 23 "LearnedShapes" "now" "LLearnedShapes$State;", Cond.methodLink RX4 45 yX4_isShape, Cond.static yX4_isShape, Cond.initialized RX4, Cond.code yX4_isShape cX4_isShape 1 (some .boolean), Cond.methodLink RX4 69 yX2_tree, Cond.instanceMethod yX2_tree, Cond.selects RX2 yX2_tree yX2_tree, Cond.initialized RX2, Cond.code yX2_tree cX2_tree 2 (some (.object "LearnedShapes$Tree")), Cond.fieldLink RX2 10 "LearnedShapes$State" "first" "LLearnedShapes$Tree;", Cond.fieldLink RX2 16 "LearnedShapes$State" "second" "LLearnedShapes$Tree;", Cond.methodLink RX4 137 yX3_has, Cond.instanceMethod yX3_has, Cond.selects RX3 yX3_has yX3_has, Cond.initialized RX3, Cond.code yX3_has cX3_has 2 (some .boolean), Cond.fieldLink RX3 15 "LearnedShapes$Tree" "size" "I", Cond.methodLink RX4 144 yX4_nodeNumber, Cond.static yX4_nodeNumber]
def wsX4_node_r2 : List Cond := [Cond.code yX4_nodeNumber cX4_nodeNumber 3 (some .int), Cond.methodLink RX4 217 yX3_get, Cond.instanceMethod yX3_get, Cond.selects RX3 yX3_get yX3_get, Cond.code yX3_get cX3_get 5 (some .int), Cond.fieldLink RX3 11 "LearnedShapes$Tree" "cells" "[I", Cond.methodLink RX4 220 yX3_above, Cond.instanceMethod yX3_above, Cond.selects RX3 yX3_above yX3_above, Cond.code yX3_above cX3_above 4 (some .int), Cond.methodLink RX3 32 yX3_get, Cond.methodLink RX4 223 yX3_countBelow, Cond.instanceMethod yX3_countBelow, Cond.selects RX3 yX3_countBelow yX3_countBelow, Cond.code yX3_countBelow cX3_countBelow 6 (some .int), Cond.methodLink RX3 36 yX3_behind, Cond.instanceMethod yX3_behind, Cond.selects RX3 yX3_behind yX3_behind, Cond.code yX3_behind cX3_behind 4 (some .int)]
def wsX4_node : List Cond := .code yX4_node cX4_node 4 (some .int) :: ((wsX4_node_r1 ++ wsX4_node_r2) ++ wsX40 ++ wsX20 ++ wsX30 ++ (vx_atS RX4 53 "java/lang/IndexOutOfBoundsException" ["java/lang/RuntimeException", "java/lang/Exception"]).filter goodWord ++ (vx_atS RX4 68 "java/lang/IllegalArgumentException" ["java/lang/RuntimeException", "java/lang/Exception"]).filter goodWord)
def wsX4_child_r1 : List Cond := [Cond.classLink RX4 49 "java/lang/IndexOutOfBoundsException", Cond.initialized "java/lang/IndexOutOfBoundsException", Cond.classLink RX4 64 "java/lang/IllegalArgumentException", Cond.initialized "java/lang/IllegalArgumentException", Cond.fieldLink RX4 23 "LearnedShapes" "now" "LLearnedShapes$State;", Cond.methodLink RX4 45 yX4_isShape, Cond.static yX4_isShape, Cond.initialized RX4, Cond.code yX4_isShape cX4_isShape 1 (some .boolean), Cond.methodLink RX4 69 yX2_tree, Cond.instanceMethod yX2_tree, Cond.selects RX2 yX2_tree yX2_tree, Cond.initialized RX2, Cond.code yX2_tree cX2_tree 2 (some (.object "LearnedShapes$Tree")), Cond.fieldLink RX2 10 "LearnedShapes$State" "first" "LLearnedShapes$Tree;", Cond.fieldLink RX2 16 "LearnedShapes$State" "second" "LLearnedShapes$Tree;", Cond.methodLink RX4 137 yX3_has, Cond.instanceMethod yX3_has, Cond.selects RX3 yX3_has yX3_has, Cond.initialized RX3, Cond.code yX3_has cX3_has 2 (some .boolean), Cond.fieldLink RX3 15 "LearnedShapes$Tree" "size" "I", Cond.methodLink RX4 150 yX3_findBelow, Cond.instanceMethod yX3_findBelow]
def wsX4_child_r2 : List Cond := [Cond.selects RX3 yX3_findBelow yX3_findBelow, Cond.code yX3_findBelow cX3_findBelow 5 (some .int), Cond.methodLink RX3 40 yX3_has, Cond.methodLink RX3 32 yX3_get, Cond.instanceMethod yX3_get, Cond.selects RX3 yX3_get yX3_get, Cond.code yX3_get cX3_get 5 (some .int), Cond.fieldLink RX3 11 "LearnedShapes$Tree" "cells" "[I"]
def wsX4_child : List Cond := .code yX4_child cX4_child 4 (some .int) :: ((wsX4_child_r1 ++ wsX4_child_r2) ++ wsX40 ++ wsX20 ++ wsX30 ++ (vx_atS RX4 53 "java/lang/IndexOutOfBoundsException" ["java/lang/RuntimeException", "java/lang/Exception"]).filter goodWord ++ (vx_atS RX4 68 "java/lang/IllegalArgumentException" ["java/lang/RuntimeException", "java/lang/Exception"]).filter goodWord)
def wsX4_shapeNumber : List Cond := .code yX4_shapeNumber cX4_shapeNumber 4 (some .int) :: ([.fieldLink RX4 226 "LearnedShapes$Tree" "documents" "I", .fieldLink RX4 92 "LearnedShapes$Tree" "size" "I", .methodLink RX4 229 Lib.Math.max.name, .static Lib.Math.max.name, .initialized "java/lang/Math", .code Lib.Math.max.name Lib.Math.max.code 2 (some .int), .methodLink RX4 217 yX3_get, .instanceMethod yX3_get, .selects RX3 yX3_get yX3_get, .initialized RX3, .code yX3_get cX3_get 5 (some .int), .fieldLink RX3 15 "LearnedShapes$Tree" "size" "I", .fieldLink RX3 11 "LearnedShapes$Tree" "cells" "[I"] ++ wsX30)
def wsX4_shape_r1 : List Cond := [Cond.classLink RX4 49 "java/lang/IndexOutOfBoundsException", Cond.initialized "java/lang/IndexOutOfBoundsException", Cond.classLink RX4 64 "java/lang/IllegalArgumentException", Cond.initialized "java/lang/IllegalArgumentException", Cond.fieldLink RX4 23 "LearnedShapes" "now" "LLearnedShapes$State;", Cond.methodLink RX4 45 yX4_isShape, Cond.static yX4_isShape, Cond.initialized RX4, Cond.code yX4_isShape cX4_isShape 1 (some .boolean), Cond.methodLink RX4 69 yX2_tree, Cond.instanceMethod yX2_tree, Cond.selects RX2 yX2_tree yX2_tree, Cond.initialized RX2, Cond.code yX2_tree cX2_tree 2 (some (.object "LearnedShapes$Tree")), Cond.fieldLink RX2 10 "LearnedShapes$State" "first" "LLearnedShapes$Tree;", Cond.fieldLink RX2 16 "LearnedShapes$State" "second" "LLearnedShapes$Tree;", Cond.methodLink RX4 156 yX4_shapeNumber, Cond.static yX4_shapeNumber, Cond.code yX4_shapeNumber cX4_shapeNumber 4 (some .int), Cond.fieldLink RX4 226 "LearnedShapes$Tree" "documents" "I", Cond.fieldLink RX4 92 "LearnedShapes$Tree" "size" "I", Cond.methodLink RX4 229 Lib.Math.max.name, Cond.static Lib.Math.max.name, Cond.initialized "java/lang/Math"]
def wsX4_shape_r2 : List Cond := [Cond.code Lib.Math.max.name Lib.Math.max.code 2 (some .int), Cond.methodLink RX4 217 yX3_get, Cond.instanceMethod yX3_get, Cond.selects RX3 yX3_get yX3_get, Cond.initialized RX3, Cond.code yX3_get cX3_get 5 (some .int), Cond.fieldLink RX3 15 "LearnedShapes$Tree" "size" "I", Cond.fieldLink RX3 11 "LearnedShapes$Tree" "cells" "[I"]
def wsX4_shape : List Cond := .code yX4_shape cX4_shape 3 (some .int) :: ((wsX4_shape_r1 ++ wsX4_shape_r2) ++ wsX40 ++ wsX20 ++ wsX30 ++ (vx_atS RX4 53 "java/lang/IndexOutOfBoundsException" ["java/lang/RuntimeException", "java/lang/Exception"]).filter goodWord ++ (vx_atS RX4 68 "java/lang/IllegalArgumentException" ["java/lang/RuntimeException", "java/lang/Exception"]).filter goodWord)
def wsX4_stateNumber : List Cond := .code yX4_stateNumber cX4_stateNumber 2 (some .int) :: ([.fieldLink RX4 23 "LearnedShapes" "now" "LLearnedShapes$State;", .fieldLink RX4 115 "LearnedShapes$State" "setting" "I", .fieldLink RX4 56 "LearnedShapes" "length" "I", .fieldLink RX4 125 "LearnedShapes" "savedStates" "I"] ++ wsX40 ++ wsX20)
def wsX4_count : List Cond := .code yX4_count cX4_count 2 (some .int) :: ([.classLink RX4 64 "java/lang/IllegalArgumentException", .initialized "java/lang/IllegalArgumentException", .methodLink RX4 168 yX4_stateNumber, .instanceMethod yX4_stateNumber, .selects RX4 yX4_stateNumber yX4_stateNumber, .initialized RX4, .code yX4_stateNumber cX4_stateNumber 2 (some .int), .fieldLink RX4 23 "LearnedShapes" "now" "LLearnedShapes$State;", .fieldLink RX4 115 "LearnedShapes$State" "setting" "I", .fieldLink RX4 56 "LearnedShapes" "length" "I", .fieldLink RX4 125 "LearnedShapes" "savedStates" "I"] ++ wsX40 ++ wsX20 ++ (vx_atS RX4 68 "java/lang/IllegalArgumentException" ["java/lang/RuntimeException", "java/lang/Exception"]).filter goodWord)
def wsX4_outlookNumber : List Cond := .code yX4_outlookNumber cX4_outlookNumber 10 (some .int) :: ([.fieldLink RX4 34 "LearnedShapes" "work" "LLearnedShapes$Tree;", .fieldLink RX4 92 "LearnedShapes$Tree" "size" "I", .methodLink RX4 77 yX4_isRefused, .instanceMethod yX4_isRefused, .selects RX4 yX4_isRefused yX4_isRefused, .initialized RX4, .code yX4_isRefused cX4_isRefused 2 (some .boolean), .fieldLink RX4 23 "LearnedShapes" "now" "LLearnedShapes$State;", .fieldLink RX4 115 "LearnedShapes$State" "setting" "I", .methodLink RX4 263 yX4_bringsAny, .instanceMethod yX4_bringsAny, .selects RX4 yX4_bringsAny yX4_bringsAny, .code yX4_bringsAny cX4_bringsAny 4 (some .boolean), .methodLink RX4 217 yX3_get, .instanceMethod yX3_get, .selects RX3 yX3_get yX3_get, .initialized RX3, .code yX3_get cX3_get 5 (some .int), .fieldLink RX3 15 "LearnedShapes$Tree" "size" "I", .fieldLink RX3 11 "LearnedShapes$Tree" "cells" "[I"] ++ wsX40 ++ wsX30 ++ wsX20)
def wsX4_ifLearned_r1 : List Cond := [Cond.classLink RX4 49 "java/lang/IndexOutOfBoundsException", Cond.initialized "java/lang/IndexOutOfBoundsException", Cond.classLink RX4 64 "java/lang/IllegalArgumentException", Cond.initialized "java/lang/IllegalArgumentException", Cond.fieldLink RX4 16 "LearnedShapes" "reader" "LLearnedShapes$Reader;", Cond.fieldLink RX4 9 "LearnedShapes" "codes" "[I", Cond.fieldLink RX4 56 "LearnedShapes" "length" "I", Cond.fieldLink RX4 23 "LearnedShapes" "now" "LLearnedShapes$State;", Cond.methodLink RX4 45 yX4_isShape, Cond.static yX4_isShape, Cond.initialized RX4, Cond.code yX4_isShape cX4_isShape 1 (some .boolean), Cond.methodLink RX4 60 yX1_read, Cond.instanceMethod yX1_read, Cond.selects RX1 yX1_read yX1_read, Cond.initialized RX1, Cond.code yX1_read cX1_read 4 (some .boolean), Cond.fieldLink RX1 12 "LearnedShapes$Reader" "values" "LLearnedShapes$Tree;", Cond.fieldLink RX1 21 "LearnedShapes$Reader" "state" "I", Cond.fieldLink RX1 25 "LearnedShapes$Reader" "open" "I", Cond.fieldLink RX1 28 "LearnedShapes$Reader" "letter" "I", Cond.fieldLink RX1 31 "LearnedShapes$Reader" "run" "I", Cond.fieldLink RX1 34 "LearnedShapes$Reader" "firstWrong" "I", Cond.fieldLink RX1 37 "LearnedShapes$Reader" "place" "I"]
def wsX4_ifLearned_r2 : List Cond := [Cond.methodLink RX1 18 yX3_clear, Cond.instanceMethod yX3_clear, Cond.selects RX3 yX3_clear yX3_clear, Cond.initialized RX3, Cond.code yX3_clear cX3_clear 1 none, Cond.fieldLink RX3 15 "LearnedShapes$Tree" "size" "I", Cond.fieldLink RX3 19 "LearnedShapes$Tree" "documents" "I", Cond.methodLink RX1 40 yX1_take, Cond.instanceMethod yX1_take, Cond.selects RX1 yX1_take yX1_take, Cond.code yX1_take cX1_take 2 (some .boolean), Cond.methodLink RX1 44 yX1_endsNumber, Cond.instanceMethod yX1_endsNumber, Cond.selects RX1 yX1_endsNumber yX1_endsNumber, Cond.code yX1_endsNumber cX1_endsNumber 4 (some .boolean), Cond.methodLink RX1 70 yX1_isDigit, Cond.static yX1_isDigit, Cond.code yX1_isDigit cX1_isDigit 1 (some .boolean), Cond.methodLink RX1 47 yX1_stateBehindValue, Cond.instanceMethod yX1_stateBehindValue, Cond.selects RX1 yX1_stateBehindValue yX1_stateBehindValue, Cond.code yX1_stateBehindValue cX1_stateBehindValue 1 (some .int), Cond.methodLink RX1 73 yX3_get, Cond.instanceMethod yX3_get]
def wsX4_ifLearned_r3 : List Cond := [Cond.selects RX3 yX3_get yX3_get, Cond.code yX3_get cX3_get 5 (some .int), Cond.fieldLink RX3 11 "LearnedShapes$Tree" "cells" "[I", Cond.methodLink RX1 51 yX1_takeValue, Cond.instanceMethod yX1_takeValue, Cond.selects RX1 yX1_takeValue yX1_takeValue, Cond.code yX1_takeValue cX1_takeValue 6 (some .boolean), Cond.methodLink RX1 81 yX1_kindAt, Cond.static yX1_kindAt, Cond.code yX1_kindAt cX1_kindAt 1 (some .int), Cond.methodLink RX1 85 yX1_depthOfNext, Cond.instanceMethod yX1_depthOfNext, Cond.selects RX1 yX1_depthOfNext yX1_depthOfNext, Cond.code yX1_depthOfNext cX1_depthOfNext 1 (some .int), Cond.methodLink RX1 88 yX3_addRow, Cond.instanceMethod yX3_addRow, Cond.selects RX3 yX3_addRow yX3_addRow, Cond.code yX3_addRow cX3_addRow 3 (some .int), Cond.methodLink RX3 44 yX3_startRow, Cond.instanceMethod yX3_startRow, Cond.selects RX3 yX3_startRow yX3_startRow, Cond.code yX3_startRow cX3_startRow 5 none, Cond.methodLink RX3 48 yX3_put, Cond.instanceMethod yX3_put]
def wsX4_ifLearned_r4 : List Cond := [Cond.selects RX3 yX3_put yX3_put, Cond.code yX3_put cX3_put 5 none, Cond.methodLink RX1 77 yX3_put, Cond.methodLink RX1 91 yX1_stateInValue, Cond.instanceMethod yX1_stateInValue, Cond.selects RX1 yX1_stateInValue yX1_stateInValue, Cond.code yX1_stateInValue cX1_stateInValue 3 (some .int), Cond.methodLink RX1 54 yX1_takePart, Cond.instanceMethod yX1_takePart, Cond.selects RX1 yX1_takePart yX1_takePart, Cond.code yX1_takePart cX1_takePart 4 (some .boolean), Cond.methodLink RX1 57 yX1_closeValue, Cond.instanceMethod yX1_closeValue, Cond.selects RX1 yX1_closeValue yX1_closeValue, Cond.code yX1_closeValue cX1_closeValue 1 (some .boolean), Cond.methodLink RX1 61 yX1_takeComma, Cond.instanceMethod yX1_takeComma, Cond.selects RX1 yX1_takeComma yX1_takeComma, Cond.code yX1_takeComma cX1_takeComma 2 (some .boolean), Cond.methodLink RX1 64 yX1_takeInWord, Cond.instanceMethod yX1_takeInWord, Cond.selects RX1 yX1_takeInWord yX1_takeInWord, Cond.code yX1_takeInWord cX1_takeInWord 2 (some .boolean), Cond.methodLink RX1 67 yX1_takeInNumber]
def wsX4_ifLearned_r5 : List Cond := [Cond.instanceMethod yX1_takeInNumber, Cond.selects RX1 yX1_takeInNumber yX1_takeInNumber, Cond.code yX1_takeInNumber cX1_takeInNumber 2 (some .boolean), Cond.methodLink RX1 94 yX1_takePoint, Cond.instanceMethod yX1_takePoint, Cond.selects RX1 yX1_takePoint yX1_takePoint, Cond.code yX1_takePoint cX1_takePoint 2 (some .boolean), Cond.fieldLink RX1 97 "LearnedShapes$Tree" "size" "I", Cond.methodLink RX4 69 yX2_tree, Cond.instanceMethod yX2_tree, Cond.selects RX2 yX2_tree yX2_tree, Cond.initialized RX2, Cond.code yX2_tree cX2_tree 2 (some (.object "LearnedShapes$Tree")), Cond.fieldLink RX2 10 "LearnedShapes$State" "first" "LLearnedShapes$Tree;", Cond.fieldLink RX2 16 "LearnedShapes$State" "second" "LLearnedShapes$Tree;", Cond.methodLink RX4 73 yX4_workOutLearned, Cond.instanceMethod yX4_workOutLearned, Cond.selects RX4 yX4_workOutLearned yX4_workOutLearned, Cond.code yX4_workOutLearned cX4_workOutLearned 5 none, Cond.fieldLink RX4 34 "LearnedShapes" "work" "LLearnedShapes$Tree;", Cond.fieldLink RX4 226 "LearnedShapes$Tree" "documents" "I", Cond.fieldLink RX4 92 "LearnedShapes$Tree" "size" "I", Cond.methodLink RX4 107 yX3_copyFrom, Cond.instanceMethod yX3_copyFrom]
def wsX4_ifLearned_r6 : List Cond := [Cond.selects RX3 yX3_copyFrom yX3_copyFrom, Cond.code yX3_copyFrom cX3_copyFrom 2 none, Cond.methodLink RX3 22 yX3_moveCells, Cond.static yX3_moveCells, Cond.code yX3_moveCells cX3_moveCells 8 none, Cond.methodLink RX3 26 arraycopyName, Cond.native arraycopyName, Cond.static arraycopyName, Cond.initialized "java/lang/System", Cond.methodLink RX4 245 yX3_put, Cond.methodLink RX4 249 yX4_showValue, Cond.instanceMethod yX4_showValue, Cond.selects RX4 yX4_showValue yX4_showValue, Cond.code yX4_showValue cX4_showValue 10 none, Cond.methodLink RX4 217 yX3_get, Cond.methodLink RX4 150 yX3_findBelow, Cond.instanceMethod yX3_findBelow, Cond.selects RX3 yX3_findBelow yX3_findBelow, Cond.code yX3_findBelow cX3_findBelow 5 (some .int), Cond.methodLink RX3 40 yX3_has, Cond.instanceMethod yX3_has, Cond.selects RX3 yX3_has yX3_has, Cond.code yX3_has cX3_has 2 (some .boolean), Cond.methodLink RX3 32 yX3_get]
def wsX4_ifLearned_r7 : List Cond := [Cond.methodLink RX4 253 yX3_insertBelow, Cond.instanceMethod yX3_insertBelow, Cond.selects RX3 yX3_insertBelow yX3_insertBelow, Cond.code yX3_insertBelow cX3_insertBelow 5 (some .int), Cond.methodLink RX4 256 yX4_joinKinds, Cond.static yX4_joinKinds, Cond.code yX4_joinKinds cX4_joinKinds 2 (some .int), Cond.methodLink RX4 259 yX3_dropBelow, Cond.instanceMethod yX3_dropBelow, Cond.selects RX3 yX3_dropBelow yX3_dropBelow, Cond.code yX3_dropBelow cX3_dropBelow 3 none, Cond.methodLink RX3 36 yX3_behind, Cond.instanceMethod yX3_behind, Cond.selects RX3 yX3_behind yX3_behind, Cond.code yX3_behind cX3_behind 4 (some .int), Cond.methodLink RX4 179 yX4_outlookNumber, Cond.instanceMethod yX4_outlookNumber, Cond.selects RX4 yX4_outlookNumber yX4_outlookNumber, Cond.code yX4_outlookNumber cX4_outlookNumber 10 (some .int), Cond.methodLink RX4 77 yX4_isRefused, Cond.instanceMethod yX4_isRefused, Cond.selects RX4 yX4_isRefused yX4_isRefused, Cond.code yX4_isRefused cX4_isRefused 2 (some .boolean), Cond.fieldLink RX4 115 "LearnedShapes$State" "setting" "I"]
def wsX4_ifLearned_r8 : List Cond := [Cond.methodLink RX4 263 yX4_bringsAny, Cond.instanceMethod yX4_bringsAny, Cond.selects RX4 yX4_bringsAny yX4_bringsAny, Cond.code yX4_bringsAny cX4_bringsAny 4 (some .boolean)]
def wsX4_ifLearned : List Cond := .code yX4_ifLearned cX4_ifLearned 3 (some .int) :: ((wsX4_ifLearned_r1 ++ (wsX4_ifLearned_r2 ++ (wsX4_ifLearned_r3 ++ (wsX4_ifLearned_r4 ++ (wsX4_ifLearned_r5 ++ (wsX4_ifLearned_r6 ++ (wsX4_ifLearned_r7 ++ wsX4_ifLearned_r8))))))) ++ wsX40 ++ wsX10 ++ wsX30 ++ wsX20 ++ (vx_atS RX4 53 "java/lang/IndexOutOfBoundsException" ["java/lang/RuntimeException", "java/lang/Exception"]).filter goodWord ++ (vx_atS RX4 68 "java/lang/IllegalArgumentException" ["java/lang/RuntimeException", "java/lang/Exception"]).filter goodWord)
def wsX4_mustBeThere : List Cond := .code yX4_mustBeThere cX4_mustBeThere 2 (some .boolean) :: ([.methodLink RX4 137 yX3_has, .instanceMethod yX3_has, .selects RX3 yX3_has yX3_has, .initialized RX3, .code yX3_has cX3_has 2 (some .boolean), .fieldLink RX3 15 "LearnedShapes$Tree" "size" "I", .methodLink RX4 217 yX3_get, .instanceMethod yX3_get, .selects RX3 yX3_get yX3_get, .code yX3_get cX3_get 5 (some .int), .fieldLink RX3 11 "LearnedShapes$Tree" "cells" "[I"] ++ wsX30)
def wsX4_coversNode_r1 : List Cond := [Cond.methodLink RX4 217 yX3_get, Cond.instanceMethod yX3_get, Cond.selects RX3 yX3_get yX3_get, Cond.initialized RX3, Cond.code yX3_get cX3_get 5 (some .int), Cond.fieldLink RX3 15 "LearnedShapes$Tree" "size" "I", Cond.fieldLink RX3 11 "LearnedShapes$Tree" "cells" "[I", Cond.methodLink RX4 256 yX4_joinKinds, Cond.static yX4_joinKinds, Cond.initialized RX4, Cond.code yX4_joinKinds cX4_joinKinds 2 (some .int), Cond.methodLink RX4 150 yX3_findBelow, Cond.instanceMethod yX3_findBelow, Cond.selects RX3 yX3_findBelow yX3_findBelow, Cond.code yX3_findBelow cX3_findBelow 5 (some .int), Cond.methodLink RX3 40 yX3_has, Cond.instanceMethod yX3_has, Cond.selects RX3 yX3_has yX3_has, Cond.code yX3_has cX3_has 2 (some .boolean), Cond.methodLink RX3 32 yX3_get, Cond.methodLink RX4 273 yX4_coversNode, Cond.static yX4_coversNode, Cond.methodLink RX4 277 yX4_mustBeThere, Cond.static yX4_mustBeThere]
def wsX4_coversNode_r2 : List Cond := [Cond.code yX4_mustBeThere cX4_mustBeThere 2 (some .boolean), Cond.methodLink RX4 137 yX3_has]
def wsX4_coversNode : List Cond := .code yX4_coversNode cX4_coversNode 10 (some .boolean) :: ((wsX4_coversNode_r1 ++ wsX4_coversNode_r2) ++ wsX30)
def wsX4_coversOther_r1 : List Cond := [Cond.fieldLink RX4 23 "LearnedShapes" "now" "LLearnedShapes$State;", Cond.fieldLink RX4 92 "LearnedShapes$Tree" "size" "I", Cond.methodLink RX4 69 yX2_tree, Cond.instanceMethod yX2_tree, Cond.selects RX2 yX2_tree yX2_tree, Cond.initialized RX2, Cond.code yX2_tree cX2_tree 2 (some (.object "LearnedShapes$Tree")), Cond.fieldLink RX2 10 "LearnedShapes$State" "first" "LLearnedShapes$Tree;", Cond.fieldLink RX2 16 "LearnedShapes$State" "second" "LLearnedShapes$Tree;", Cond.methodLink RX4 273 yX4_coversNode, Cond.static yX4_coversNode, Cond.initialized RX4, Cond.code yX4_coversNode cX4_coversNode 10 (some .boolean), Cond.methodLink RX4 217 yX3_get, Cond.instanceMethod yX3_get, Cond.selects RX3 yX3_get yX3_get, Cond.initialized RX3, Cond.code yX3_get cX3_get 5 (some .int), Cond.fieldLink RX3 15 "LearnedShapes$Tree" "size" "I", Cond.fieldLink RX3 11 "LearnedShapes$Tree" "cells" "[I", Cond.methodLink RX4 256 yX4_joinKinds, Cond.static yX4_joinKinds, Cond.code yX4_joinKinds cX4_joinKinds 2 (some .int), Cond.methodLink RX4 150 yX3_findBelow]
def wsX4_coversOther_r2 : List Cond := [Cond.instanceMethod yX3_findBelow, Cond.selects RX3 yX3_findBelow yX3_findBelow, Cond.code yX3_findBelow cX3_findBelow 5 (some .int), Cond.methodLink RX3 40 yX3_has, Cond.instanceMethod yX3_has, Cond.selects RX3 yX3_has yX3_has, Cond.code yX3_has cX3_has 2 (some .boolean), Cond.methodLink RX3 32 yX3_get, Cond.methodLink RX4 277 yX4_mustBeThere, Cond.static yX4_mustBeThere, Cond.code yX4_mustBeThere cX4_mustBeThere 2 (some .boolean), Cond.methodLink RX4 137 yX3_has]
def wsX4_coversOther : List Cond := .code yX4_coversOther cX4_coversOther 4 (some .boolean) :: ((wsX4_coversOther_r1 ++ wsX4_coversOther_r2) ++ wsX40 ++ wsX30 ++ wsX20)
def wsX4_covers_r1 : List Cond := [Cond.classLink RX4 49 "java/lang/IndexOutOfBoundsException", Cond.initialized "java/lang/IndexOutOfBoundsException", Cond.methodLink RX4 45 yX4_isShape, Cond.static yX4_isShape, Cond.initialized RX4, Cond.code yX4_isShape cX4_isShape 1 (some .boolean), Cond.methodLink RX4 182 yX4_coversOther, Cond.instanceMethod yX4_coversOther, Cond.selects RX4 yX4_coversOther yX4_coversOther, Cond.code yX4_coversOther cX4_coversOther 4 (some .boolean), Cond.fieldLink RX4 23 "LearnedShapes" "now" "LLearnedShapes$State;", Cond.fieldLink RX4 92 "LearnedShapes$Tree" "size" "I", Cond.methodLink RX4 69 yX2_tree, Cond.instanceMethod yX2_tree, Cond.selects RX2 yX2_tree yX2_tree, Cond.initialized RX2, Cond.code yX2_tree cX2_tree 2 (some (.object "LearnedShapes$Tree")), Cond.fieldLink RX2 10 "LearnedShapes$State" "first" "LLearnedShapes$Tree;", Cond.fieldLink RX2 16 "LearnedShapes$State" "second" "LLearnedShapes$Tree;", Cond.methodLink RX4 273 yX4_coversNode, Cond.static yX4_coversNode, Cond.code yX4_coversNode cX4_coversNode 10 (some .boolean), Cond.methodLink RX4 217 yX3_get, Cond.instanceMethod yX3_get]
def wsX4_covers_r2 : List Cond := [Cond.selects RX3 yX3_get yX3_get, Cond.initialized RX3, Cond.code yX3_get cX3_get 5 (some .int), Cond.fieldLink RX3 15 "LearnedShapes$Tree" "size" "I", Cond.fieldLink RX3 11 "LearnedShapes$Tree" "cells" "[I", Cond.methodLink RX4 256 yX4_joinKinds, Cond.static yX4_joinKinds, Cond.code yX4_joinKinds cX4_joinKinds 2 (some .int), Cond.methodLink RX4 150 yX3_findBelow, Cond.instanceMethod yX3_findBelow, Cond.selects RX3 yX3_findBelow yX3_findBelow, Cond.code yX3_findBelow cX3_findBelow 5 (some .int), Cond.methodLink RX3 40 yX3_has, Cond.instanceMethod yX3_has, Cond.selects RX3 yX3_has yX3_has, Cond.code yX3_has cX3_has 2 (some .boolean), Cond.methodLink RX3 32 yX3_get, Cond.methodLink RX4 277 yX4_mustBeThere, Cond.static yX4_mustBeThere, Cond.code yX4_mustBeThere cX4_mustBeThere 2 (some .boolean), Cond.methodLink RX4 137 yX3_has]
def wsX4_covers : List Cond := .code yX4_covers cX4_covers 2 (some .int) :: ((wsX4_covers_r1 ++ wsX4_covers_r2) ++ wsX40 ++ wsX30 ++ wsX20 ++ (vx_atS RX4 53 "java/lang/IndexOutOfBoundsException" ["java/lang/RuntimeException", "java/lang/Exception"]).filter goodWord)
def wsX4_shareOfSure : List Cond := .code yX4_shareOfSure cX4_shareOfSure 3 (some .double) :: ([.fieldLink RX4 92 "LearnedShapes$Tree" "size" "I", .methodLink RX4 217 yX3_get, .instanceMethod yX3_get, .selects RX3 yX3_get yX3_get, .initialized RX3, .code yX3_get cX3_get 5 (some .int), .fieldLink RX3 15 "LearnedShapes$Tree" "size" "I", .fieldLink RX3 11 "LearnedShapes$Tree" "cells" "[I"] ++ wsX30)
def wsX4_sureShare_r1 : List Cond := [Cond.classLink RX4 49 "java/lang/IndexOutOfBoundsException", Cond.initialized "java/lang/IndexOutOfBoundsException", Cond.fieldLink RX4 23 "LearnedShapes" "now" "LLearnedShapes$State;", Cond.methodLink RX4 45 yX4_isShape, Cond.static yX4_isShape, Cond.initialized RX4, Cond.code yX4_isShape cX4_isShape 1 (some .boolean), Cond.methodLink RX4 69 yX2_tree, Cond.instanceMethod yX2_tree, Cond.selects RX2 yX2_tree yX2_tree, Cond.initialized RX2, Cond.code yX2_tree cX2_tree 2 (some (.object "LearnedShapes$Tree")), Cond.fieldLink RX2 10 "LearnedShapes$State" "first" "LLearnedShapes$Tree;", Cond.fieldLink RX2 16 "LearnedShapes$State" "second" "LLearnedShapes$Tree;", Cond.methodLink RX4 185 yX4_shareOfSure, Cond.static yX4_shareOfSure, Cond.code yX4_shareOfSure cX4_shareOfSure 3 (some .double), Cond.fieldLink RX4 92 "LearnedShapes$Tree" "size" "I", Cond.methodLink RX4 217 yX3_get, Cond.instanceMethod yX3_get, Cond.selects RX3 yX3_get yX3_get, Cond.initialized RX3, Cond.code yX3_get cX3_get 5 (some .int), Cond.fieldLink RX3 15 "LearnedShapes$Tree" "size" "I"]
def wsX4_sureShare_r2 : List Cond := [Cond.fieldLink RX3 11 "LearnedShapes$Tree" "cells" "[I"]
def wsX4_sureShare : List Cond := .code yX4_sureShare cX4_sureShare 2 (some .double) :: ((wsX4_sureShare_r1 ++ wsX4_sureShare_r2) ++ wsX40 ++ wsX20 ++ wsX30 ++ (vx_atS RX4 53 "java/lang/IndexOutOfBoundsException" ["java/lang/RuntimeException", "java/lang/Exception"]).filter goodWord)
def wsJ9_max_7cf53 : List Cond := .code yJ9_max_7cf53 cJ9_max_7cf53 2 (some .int) :: ([])
def wsL_low : List Cond := .code yL_low cL_low 2 (some .int) :: ([.constant RL 7 (2147483647)])
def wsL_cell : List Cond := .code yL_cell cL_cell 2 (some .int) :: ([.constant RL 8 (40503)])
def wsL_simple : List Cond := .code yL_simple cL_simple 3 none :: ([.methodLink RL 9 yX4_append, .instanceMethod yX4_append, .selects RX4 yX4_append yX4_append, .initialized RX4, .code yX4_append cX4_append 2 (some .int), .classLink RX4 64 "java/lang/IllegalArgumentException", .initialized "java/lang/IllegalArgumentException", .classLink RX4 81 "java/lang/IllegalStateException", .initialized "java/lang/IllegalStateException", .fieldLink RX4 56 "LearnedShapes" "length" "I", .fieldLink RX4 9 "LearnedShapes" "codes" "[I", .methodLink RL 15 yL_low, .static yL_low, .initialized RL, .code yL_low cL_low 2 (some .int), .constant RL 7 (2147483647)] ++ wsX40 ++ (vx_atS RX4 68 "java/lang/IllegalArgumentException" ["java/lang/RuntimeException", "java/lang/Exception"]).filter goodWord ++ (vx_atS RX4 85 "java/lang/IllegalStateException" ["java/lang/RuntimeException", "java/lang/Exception"]).filter goodWord)
def wsL_types : List Cond := .code yL_types cL_types 16 (some .int) :: ([.methodLink RL 9 yX4_append, .instanceMethod yX4_append, .selects RX4 yX4_append yX4_append, .initialized RX4, .code yX4_append cX4_append 2 (some .int), .classLink RX4 64 "java/lang/IllegalArgumentException", .initialized "java/lang/IllegalArgumentException", .classLink RX4 81 "java/lang/IllegalStateException", .initialized "java/lang/IllegalStateException", .fieldLink RX4 56 "LearnedShapes" "length" "I", .fieldLink RX4 9 "LearnedShapes" "codes" "[I", .methodLink RL 21 yL_cell, .static yL_cell, .initialized RL, .code yL_cell cL_cell 2 (some .int), .constant RL 8 (40503), .methodLink RL 15 yL_low, .static yL_low, .code yL_low cL_low 2 (some .int), .constant RL 7 (2147483647), .methodLink RL 25 yL_simple, .static yL_simple, .code yL_simple cL_simple 3 none] ++ wsX40 ++ (vx_atS RX4 68 "java/lang/IllegalArgumentException" ["java/lang/RuntimeException", "java/lang/Exception"]).filter goodWord ++ (vx_atS RX4 85 "java/lang/IllegalStateException" ["java/lang/RuntimeException", "java/lang/Exception"]).filter goodWord)
def wsL_learn_r1 : List Cond := [Cond.classLink RL 32 "java/lang/IllegalStateException", Cond.methodLink RL 29 yX4_learn, Cond.instanceMethod yX4_learn, Cond.selects RX4 yX4_learn yX4_learn, Cond.initialized RX4, Cond.code yX4_learn cX4_learn 3 (some .int), Cond.classLink RX4 49 "java/lang/IndexOutOfBoundsException", Cond.initialized "java/lang/IndexOutOfBoundsException", Cond.classLink RX4 64 "java/lang/IllegalArgumentException", Cond.initialized "java/lang/IllegalArgumentException", Cond.classLink RX4 81 "java/lang/IllegalStateException", Cond.initialized "java/lang/IllegalStateException", Cond.fieldLink RX4 16 "LearnedShapes" "reader" "LLearnedShapes$Reader;", Cond.fieldLink RX4 9 "LearnedShapes" "codes" "[I", Cond.fieldLink RX4 56 "LearnedShapes" "length" "I", Cond.fieldLink RX4 23 "LearnedShapes" "now" "LLearnedShapes$State;", Cond.fieldLink RX4 92 "LearnedShapes$Tree" "size" "I", Cond.methodLink RX4 45 yX4_isShape, Cond.static yX4_isShape, Cond.code yX4_isShape cX4_isShape 1 (some .boolean), Cond.methodLink RX4 60 yX1_read, Cond.instanceMethod yX1_read, Cond.selects RX1 yX1_read yX1_read, Cond.initialized RX1]
def wsL_learn_r2 : List Cond := [Cond.code yX1_read cX1_read 4 (some .boolean), Cond.fieldLink RX1 12 "LearnedShapes$Reader" "values" "LLearnedShapes$Tree;", Cond.fieldLink RX1 21 "LearnedShapes$Reader" "state" "I", Cond.fieldLink RX1 25 "LearnedShapes$Reader" "open" "I", Cond.fieldLink RX1 28 "LearnedShapes$Reader" "letter" "I", Cond.fieldLink RX1 31 "LearnedShapes$Reader" "run" "I", Cond.fieldLink RX1 34 "LearnedShapes$Reader" "firstWrong" "I", Cond.fieldLink RX1 37 "LearnedShapes$Reader" "place" "I", Cond.methodLink RX1 18 yX3_clear, Cond.instanceMethod yX3_clear, Cond.selects RX3 yX3_clear yX3_clear, Cond.initialized RX3, Cond.code yX3_clear cX3_clear 1 none, Cond.fieldLink RX3 15 "LearnedShapes$Tree" "size" "I", Cond.fieldLink RX3 19 "LearnedShapes$Tree" "documents" "I", Cond.methodLink RX1 40 yX1_take, Cond.instanceMethod yX1_take, Cond.selects RX1 yX1_take yX1_take, Cond.code yX1_take cX1_take 2 (some .boolean), Cond.methodLink RX1 44 yX1_endsNumber, Cond.instanceMethod yX1_endsNumber, Cond.selects RX1 yX1_endsNumber yX1_endsNumber, Cond.code yX1_endsNumber cX1_endsNumber 4 (some .boolean), Cond.methodLink RX1 70 yX1_isDigit]
def wsL_learn_r3 : List Cond := [Cond.static yX1_isDigit, Cond.code yX1_isDigit cX1_isDigit 1 (some .boolean), Cond.methodLink RX1 47 yX1_stateBehindValue, Cond.instanceMethod yX1_stateBehindValue, Cond.selects RX1 yX1_stateBehindValue yX1_stateBehindValue, Cond.code yX1_stateBehindValue cX1_stateBehindValue 1 (some .int), Cond.methodLink RX1 73 yX3_get, Cond.instanceMethod yX3_get, Cond.selects RX3 yX3_get yX3_get, Cond.code yX3_get cX3_get 5 (some .int), Cond.fieldLink RX3 11 "LearnedShapes$Tree" "cells" "[I", Cond.methodLink RX1 51 yX1_takeValue, Cond.instanceMethod yX1_takeValue, Cond.selects RX1 yX1_takeValue yX1_takeValue, Cond.code yX1_takeValue cX1_takeValue 6 (some .boolean), Cond.methodLink RX1 81 yX1_kindAt, Cond.static yX1_kindAt, Cond.code yX1_kindAt cX1_kindAt 1 (some .int), Cond.methodLink RX1 85 yX1_depthOfNext, Cond.instanceMethod yX1_depthOfNext, Cond.selects RX1 yX1_depthOfNext yX1_depthOfNext, Cond.code yX1_depthOfNext cX1_depthOfNext 1 (some .int), Cond.methodLink RX1 88 yX3_addRow, Cond.instanceMethod yX3_addRow]
def wsL_learn_r4 : List Cond := [Cond.selects RX3 yX3_addRow yX3_addRow, Cond.code yX3_addRow cX3_addRow 3 (some .int), Cond.methodLink RX3 44 yX3_startRow, Cond.instanceMethod yX3_startRow, Cond.selects RX3 yX3_startRow yX3_startRow, Cond.code yX3_startRow cX3_startRow 5 none, Cond.methodLink RX3 48 yX3_put, Cond.instanceMethod yX3_put, Cond.selects RX3 yX3_put yX3_put, Cond.code yX3_put cX3_put 5 none, Cond.methodLink RX1 77 yX3_put, Cond.methodLink RX1 91 yX1_stateInValue, Cond.instanceMethod yX1_stateInValue, Cond.selects RX1 yX1_stateInValue yX1_stateInValue, Cond.code yX1_stateInValue cX1_stateInValue 3 (some .int), Cond.methodLink RX1 54 yX1_takePart, Cond.instanceMethod yX1_takePart, Cond.selects RX1 yX1_takePart yX1_takePart, Cond.code yX1_takePart cX1_takePart 4 (some .boolean), Cond.methodLink RX1 57 yX1_closeValue, Cond.instanceMethod yX1_closeValue, Cond.selects RX1 yX1_closeValue yX1_closeValue, Cond.code yX1_closeValue cX1_closeValue 1 (some .boolean), Cond.methodLink RX1 61 yX1_takeComma]
def wsL_learn_r5 : List Cond := [Cond.instanceMethod yX1_takeComma, Cond.selects RX1 yX1_takeComma yX1_takeComma, Cond.code yX1_takeComma cX1_takeComma 2 (some .boolean), Cond.methodLink RX1 64 yX1_takeInWord, Cond.instanceMethod yX1_takeInWord, Cond.selects RX1 yX1_takeInWord yX1_takeInWord, Cond.code yX1_takeInWord cX1_takeInWord 2 (some .boolean), Cond.methodLink RX1 67 yX1_takeInNumber, Cond.instanceMethod yX1_takeInNumber, Cond.selects RX1 yX1_takeInNumber yX1_takeInNumber, Cond.code yX1_takeInNumber cX1_takeInNumber 2 (some .boolean), Cond.methodLink RX1 94 yX1_takePoint, Cond.instanceMethod yX1_takePoint, Cond.selects RX1 yX1_takePoint yX1_takePoint, Cond.code yX1_takePoint cX1_takePoint 2 (some .boolean), Cond.fieldLink RX1 97 "LearnedShapes$Tree" "size" "I", Cond.methodLink RX4 69 yX2_tree, Cond.instanceMethod yX2_tree, Cond.selects RX2 yX2_tree yX2_tree, Cond.initialized RX2, Cond.code yX2_tree cX2_tree 2 (some (.object "LearnedShapes$Tree")), Cond.fieldLink RX2 10 "LearnedShapes$State" "first" "LLearnedShapes$Tree;", Cond.fieldLink RX2 16 "LearnedShapes$State" "second" "LLearnedShapes$Tree;", Cond.methodLink RX4 73 yX4_workOutLearned]
def wsL_learn_r6 : List Cond := [Cond.instanceMethod yX4_workOutLearned, Cond.selects RX4 yX4_workOutLearned yX4_workOutLearned, Cond.code yX4_workOutLearned cX4_workOutLearned 5 none, Cond.fieldLink RX4 34 "LearnedShapes" "work" "LLearnedShapes$Tree;", Cond.fieldLink RX4 226 "LearnedShapes$Tree" "documents" "I", Cond.methodLink RX4 107 yX3_copyFrom, Cond.instanceMethod yX3_copyFrom, Cond.selects RX3 yX3_copyFrom yX3_copyFrom, Cond.code yX3_copyFrom cX3_copyFrom 2 none, Cond.methodLink RX3 22 yX3_moveCells, Cond.static yX3_moveCells, Cond.code yX3_moveCells cX3_moveCells 8 none, Cond.methodLink RX3 26 arraycopyName, Cond.native arraycopyName, Cond.static arraycopyName, Cond.initialized "java/lang/System", Cond.methodLink RX4 245 yX3_put, Cond.methodLink RX4 249 yX4_showValue, Cond.instanceMethod yX4_showValue, Cond.selects RX4 yX4_showValue yX4_showValue, Cond.code yX4_showValue cX4_showValue 10 none, Cond.methodLink RX4 217 yX3_get, Cond.methodLink RX4 150 yX3_findBelow, Cond.instanceMethod yX3_findBelow]
def wsL_learn_r7 : List Cond := [Cond.selects RX3 yX3_findBelow yX3_findBelow, Cond.code yX3_findBelow cX3_findBelow 5 (some .int), Cond.methodLink RX3 40 yX3_has, Cond.instanceMethod yX3_has, Cond.selects RX3 yX3_has yX3_has, Cond.code yX3_has cX3_has 2 (some .boolean), Cond.methodLink RX3 32 yX3_get, Cond.methodLink RX4 253 yX3_insertBelow, Cond.instanceMethod yX3_insertBelow, Cond.selects RX3 yX3_insertBelow yX3_insertBelow, Cond.code yX3_insertBelow cX3_insertBelow 5 (some .int), Cond.methodLink RX4 256 yX4_joinKinds, Cond.static yX4_joinKinds, Cond.code yX4_joinKinds cX4_joinKinds 2 (some .int), Cond.methodLink RX4 259 yX3_dropBelow, Cond.instanceMethod yX3_dropBelow, Cond.selects RX3 yX3_dropBelow yX3_dropBelow, Cond.code yX3_dropBelow cX3_dropBelow 3 none, Cond.methodLink RX3 36 yX3_behind, Cond.instanceMethod yX3_behind, Cond.selects RX3 yX3_behind yX3_behind, Cond.code yX3_behind cX3_behind 4 (some .int), Cond.methodLink RX4 77 yX4_isRefused, Cond.instanceMethod yX4_isRefused]
def wsL_learn_r8 : List Cond := [Cond.selects RX4 yX4_isRefused yX4_isRefused, Cond.code yX4_isRefused cX4_isRefused 2 (some .boolean), Cond.fieldLink RX4 115 "LearnedShapes$State" "setting" "I", Cond.methodLink RX4 263 yX4_bringsAny, Cond.instanceMethod yX4_bringsAny, Cond.selects RX4 yX4_bringsAny yX4_bringsAny, Cond.code yX4_bringsAny cX4_bringsAny 4 (some .boolean), Cond.methodLink RX4 86 yX4_saveState, Cond.instanceMethod yX4_saveState, Cond.selects RX4 yX4_saveState yX4_saveState, Cond.code yX4_saveState cX4_saveState 2 none, Cond.fieldLink RX4 125 "LearnedShapes" "savedStates" "I", Cond.fieldLink RX4 27 "LearnedShapes" "saved" "[LLearnedShapes$State;", Cond.methodLink RX4 211 yX4_dropOldest, Cond.instanceMethod yX4_dropOldest, Cond.selects RX4 yX4_dropOldest yX4_dropOldest, Cond.code yX4_dropOldest cX4_dropOldest 3 none, Cond.methodLink RX4 128 yX4_savedAt, Cond.instanceMethod yX4_savedAt, Cond.selects RX4 yX4_savedAt yX4_savedAt, Cond.code yX4_savedAt cX4_savedAt 2 (some (.object "LearnedShapes$State")), Cond.methodLink RX4 134 yX2_copyFrom, Cond.instanceMethod yX2_copyFrom, Cond.selects RX2 yX2_copyFrom yX2_copyFrom]
def wsL_learn_r9 : List Cond := [Cond.code yX2_copyFrom cX2_copyFrom 2 none, Cond.fieldLink RX2 23 "LearnedShapes$State" "setting" "I", Cond.methodLink RX2 19 yX3_copyFrom, Cond.methodLink RX4 89 yX4_takeWork, Cond.instanceMethod yX4_takeWork, Cond.selects RX4 yX4_takeWork yX4_takeWork, Cond.code yX4_takeWork cX4_takeWork 2 none, Cond.methodLink RX4 214 yX3_markOptional, Cond.instanceMethod yX3_markOptional, Cond.selects RX3 yX3_markOptional yX3_markOptional, Cond.code yX3_markOptional cX3_markOptional 5 none, Cond.methodLink RX3 51 yX3_above, Cond.instanceMethod yX3_above, Cond.selects RX3 yX3_above yX3_above, Cond.code yX3_above cX3_above 4 (some .int)]
def wsL_learn : List Cond := .codeWith yL_learn cL_learn 3 (some .int) [(0, 5, 6, 32)] :: ((wsL_learn_r1 ++ (wsL_learn_r2 ++ (wsL_learn_r3 ++ (wsL_learn_r4 ++ (wsL_learn_r5 ++ (wsL_learn_r6 ++ (wsL_learn_r7 ++ (wsL_learn_r8 ++ wsL_learn_r9)))))))) ++ wsX40 ++ wsX30 ++ wsX10 ++ wsX20 ++ (vx_atS RX4 53 "java/lang/IndexOutOfBoundsException" ["java/lang/RuntimeException", "java/lang/Exception"]).filter goodWord ++ (vx_atS RX4 68 "java/lang/IllegalArgumentException" ["java/lang/RuntimeException", "java/lang/Exception"]).filter goodWord ++ (vx_atS RX4 85 "java/lang/IllegalStateException" ["java/lang/RuntimeException", "java/lang/Exception"]).filter goodWord)
def wsL_join_r1 : List Cond := [Cond.classLink RL 32 "java/lang/IllegalStateException", Cond.methodLink RL 34 yX4_join, Cond.instanceMethod yX4_join, Cond.selects RX4 yX4_join yX4_join, Cond.initialized RX4, Cond.code yX4_join cX4_join 3 (some .int), Cond.classLink RX4 49 "java/lang/IndexOutOfBoundsException", Cond.initialized "java/lang/IndexOutOfBoundsException", Cond.classLink RX4 81 "java/lang/IllegalStateException", Cond.initialized "java/lang/IllegalStateException", Cond.fieldLink RX4 23 "LearnedShapes" "now" "LLearnedShapes$State;", Cond.fieldLink RX4 34 "LearnedShapes" "work" "LLearnedShapes$Tree;", Cond.fieldLink RX4 92 "LearnedShapes$Tree" "size" "I", Cond.methodLink RX4 45 yX4_isShape, Cond.static yX4_isShape, Cond.code yX4_isShape cX4_isShape 1 (some .boolean), Cond.methodLink RX4 69 yX2_tree, Cond.instanceMethod yX2_tree, Cond.selects RX2 yX2_tree yX2_tree, Cond.initialized RX2, Cond.code yX2_tree cX2_tree 2 (some (.object "LearnedShapes$Tree")), Cond.fieldLink RX2 10 "LearnedShapes$State" "first" "LLearnedShapes$Tree;", Cond.fieldLink RX2 16 "LearnedShapes$State" "second" "LLearnedShapes$Tree;", Cond.methodLink RX4 95 yX4_workOutJoined]
def wsL_join_r2 : List Cond := [Cond.instanceMethod yX4_workOutJoined, Cond.selects RX4 yX4_workOutJoined yX4_workOutJoined, Cond.code yX4_workOutJoined cX4_workOutJoined 3 none, Cond.fieldLink RX4 226 "LearnedShapes$Tree" "documents" "I", Cond.methodLink RX4 101 yX3_clear, Cond.instanceMethod yX3_clear, Cond.selects RX3 yX3_clear yX3_clear, Cond.initialized RX3, Cond.code yX3_clear cX3_clear 1 none, Cond.fieldLink RX3 15 "LearnedShapes$Tree" "size" "I", Cond.fieldLink RX3 19 "LearnedShapes$Tree" "documents" "I", Cond.methodLink RX4 266 yX4_joinNodes, Cond.static yX4_joinNodes, Cond.code yX4_joinNodes cX4_joinNodes 15 none, Cond.methodLink RX4 229 Lib.Math.max.name, Cond.static Lib.Math.max.name, Cond.initialized "java/lang/Math", Cond.code Lib.Math.max.name Lib.Math.max.code 2 (some .int), Cond.methodLink RX4 217 yX3_get, Cond.instanceMethod yX3_get, Cond.selects RX3 yX3_get yX3_get, Cond.code yX3_get cX3_get 5 (some .int), Cond.fieldLink RX3 11 "LearnedShapes$Tree" "cells" "[I", Cond.methodLink RX4 256 yX4_joinKinds]
def wsL_join_r3 : List Cond := [Cond.static yX4_joinKinds, Cond.code yX4_joinKinds cX4_joinKinds 2 (some .int), Cond.methodLink RX4 270 yX3_addRow, Cond.instanceMethod yX3_addRow, Cond.selects RX3 yX3_addRow yX3_addRow, Cond.code yX3_addRow cX3_addRow 3 (some .int), Cond.methodLink RX3 44 yX3_startRow, Cond.instanceMethod yX3_startRow, Cond.selects RX3 yX3_startRow yX3_startRow, Cond.code yX3_startRow cX3_startRow 5 none, Cond.methodLink RX3 48 yX3_put, Cond.instanceMethod yX3_put, Cond.selects RX3 yX3_put yX3_put, Cond.code yX3_put cX3_put 5 none, Cond.methodLink RX4 245 yX3_put, Cond.methodLink RX4 150 yX3_findBelow, Cond.instanceMethod yX3_findBelow, Cond.selects RX3 yX3_findBelow yX3_findBelow, Cond.code yX3_findBelow cX3_findBelow 5 (some .int), Cond.methodLink RX3 40 yX3_has, Cond.instanceMethod yX3_has, Cond.selects RX3 yX3_has yX3_has, Cond.code yX3_has cX3_has 2 (some .boolean), Cond.methodLink RX3 32 yX3_get]
def wsL_join_r4 : List Cond := [Cond.methodLink RX4 86 yX4_saveState, Cond.instanceMethod yX4_saveState, Cond.selects RX4 yX4_saveState yX4_saveState, Cond.code yX4_saveState cX4_saveState 2 none, Cond.fieldLink RX4 125 "LearnedShapes" "savedStates" "I", Cond.fieldLink RX4 27 "LearnedShapes" "saved" "[LLearnedShapes$State;", Cond.methodLink RX4 211 yX4_dropOldest, Cond.instanceMethod yX4_dropOldest, Cond.selects RX4 yX4_dropOldest yX4_dropOldest, Cond.code yX4_dropOldest cX4_dropOldest 3 none, Cond.methodLink RX4 128 yX4_savedAt, Cond.instanceMethod yX4_savedAt, Cond.selects RX4 yX4_savedAt yX4_savedAt, Cond.code yX4_savedAt cX4_savedAt 2 (some (.object "LearnedShapes$State")), Cond.methodLink RX4 134 yX2_copyFrom, Cond.instanceMethod yX2_copyFrom, Cond.selects RX2 yX2_copyFrom yX2_copyFrom, Cond.code yX2_copyFrom cX2_copyFrom 2 none, Cond.fieldLink RX2 23 "LearnedShapes$State" "setting" "I", Cond.methodLink RX2 19 yX3_copyFrom, Cond.instanceMethod yX3_copyFrom, Cond.selects RX3 yX3_copyFrom yX3_copyFrom, Cond.code yX3_copyFrom cX3_copyFrom 2 none, Cond.methodLink RX3 22 yX3_moveCells]
def wsL_join_r5 : List Cond := [Cond.static yX3_moveCells, Cond.code yX3_moveCells cX3_moveCells 8 none, Cond.methodLink RX3 26 arraycopyName, Cond.native arraycopyName, Cond.static arraycopyName, Cond.initialized "java/lang/System", Cond.methodLink RX4 89 yX4_takeWork, Cond.instanceMethod yX4_takeWork, Cond.selects RX4 yX4_takeWork yX4_takeWork, Cond.code yX4_takeWork cX4_takeWork 2 none, Cond.methodLink RX4 214 yX3_markOptional, Cond.instanceMethod yX3_markOptional, Cond.selects RX3 yX3_markOptional yX3_markOptional, Cond.code yX3_markOptional cX3_markOptional 5 none, Cond.methodLink RX3 51 yX3_above, Cond.instanceMethod yX3_above, Cond.selects RX3 yX3_above yX3_above, Cond.code yX3_above cX3_above 4 (some .int), Cond.methodLink RX4 107 yX3_copyFrom]
def wsL_join : List Cond := .codeWith yL_join cL_join 3 (some .int) [(0, 5, 6, 32)] :: ((wsL_join_r1 ++ (wsL_join_r2 ++ (wsL_join_r3 ++ (wsL_join_r4 ++ wsL_join_r5)))) ++ wsX40 ++ wsX30 ++ wsX20 ++ (vx_atS RX4 53 "java/lang/IndexOutOfBoundsException" ["java/lang/RuntimeException", "java/lang/Exception"]).filter goodWord ++ (vx_atS RX4 85 "java/lang/IllegalStateException" ["java/lang/RuntimeException", "java/lang/Exception"]).filter goodWord)
def wsL_undo_r1 : List Cond := [Cond.classLink RL 32 "java/lang/IllegalStateException", Cond.methodLink RL 37 yX4_undo, Cond.instanceMethod yX4_undo, Cond.selects RX4 yX4_undo yX4_undo, Cond.initialized RX4, Cond.code yX4_undo cX4_undo 2 (some .int), Cond.classLink RX4 81 "java/lang/IllegalStateException", Cond.initialized "java/lang/IllegalStateException", Cond.fieldLink RX4 125 "LearnedShapes" "savedStates" "I", Cond.fieldLink RX4 23 "LearnedShapes" "now" "LLearnedShapes$State;", Cond.methodLink RX4 128 yX4_savedAt, Cond.instanceMethod yX4_savedAt, Cond.selects RX4 yX4_savedAt yX4_savedAt, Cond.code yX4_savedAt cX4_savedAt 2 (some (.object "LearnedShapes$State")), Cond.fieldLink RX4 27 "LearnedShapes" "saved" "[LLearnedShapes$State;", Cond.methodLink RX4 134 yX2_copyFrom, Cond.instanceMethod yX2_copyFrom, Cond.selects RX2 yX2_copyFrom yX2_copyFrom, Cond.initialized RX2, Cond.code yX2_copyFrom cX2_copyFrom 2 none, Cond.fieldLink RX2 10 "LearnedShapes$State" "first" "LLearnedShapes$Tree;", Cond.fieldLink RX2 16 "LearnedShapes$State" "second" "LLearnedShapes$Tree;", Cond.fieldLink RX2 23 "LearnedShapes$State" "setting" "I", Cond.methodLink RX2 19 yX3_copyFrom]
def wsL_undo_r2 : List Cond := [Cond.instanceMethod yX3_copyFrom, Cond.selects RX3 yX3_copyFrom yX3_copyFrom, Cond.initialized RX3, Cond.code yX3_copyFrom cX3_copyFrom 2 none, Cond.fieldLink RX3 11 "LearnedShapes$Tree" "cells" "[I", Cond.fieldLink RX3 15 "LearnedShapes$Tree" "size" "I", Cond.fieldLink RX3 19 "LearnedShapes$Tree" "documents" "I", Cond.methodLink RX3 22 yX3_moveCells, Cond.static yX3_moveCells, Cond.code yX3_moveCells cX3_moveCells 8 none, Cond.methodLink RX3 26 arraycopyName, Cond.native arraycopyName, Cond.static arraycopyName, Cond.initialized "java/lang/System"]
def wsL_undo : List Cond := .codeWith yL_undo cL_undo 2 (some .int) [(0, 4, 5, 32)] :: ((wsL_undo_r1 ++ wsL_undo_r2) ++ wsX40 ++ wsX20 ++ wsX30 ++ (vx_atS RX4 85 "java/lang/IllegalStateException" ["java/lang/RuntimeException", "java/lang/Exception"]).filter goodWord)
def wsL_node_r1 : List Cond := [Cond.methodLink RL 41 yX4_node, Cond.instanceMethod yX4_node, Cond.selects RX4 yX4_node yX4_node, Cond.initialized RX4, Cond.code yX4_node cX4_node 4 (some .int), Cond.classLink RX4 49 "java/lang/IndexOutOfBoundsException", Cond.initialized "java/lang/IndexOutOfBoundsException", Cond.classLink RX4 64 "java/lang/IllegalArgumentException", Cond.initialized "java/lang/IllegalArgumentException", Cond.fieldLink RX4 23 "LearnedShapes" "now" "LLearnedShapes$State;", Cond.methodLink RX4 45 yX4_isShape, Cond.static yX4_isShape, Cond.code yX4_isShape cX4_isShape 1 (some .boolean), Cond.methodLink RX4 69 yX2_tree, Cond.instanceMethod yX2_tree, Cond.selects RX2 yX2_tree yX2_tree, Cond.initialized RX2, Cond.code yX2_tree cX2_tree 2 (some (.object "LearnedShapes$Tree")), Cond.fieldLink RX2 10 "LearnedShapes$State" "first" "LLearnedShapes$Tree;", Cond.fieldLink RX2 16 "LearnedShapes$State" "second" "LLearnedShapes$Tree;", Cond.methodLink RX4 137 yX3_has, Cond.instanceMethod yX3_has, Cond.selects RX3 yX3_has yX3_has, Cond.initialized RX3]
def wsL_node_r2 : List Cond := [Cond.code yX3_has cX3_has 2 (some .boolean), Cond.fieldLink RX3 15 "LearnedShapes$Tree" "size" "I", Cond.methodLink RX4 144 yX4_nodeNumber, Cond.static yX4_nodeNumber, Cond.code yX4_nodeNumber cX4_nodeNumber 3 (some .int), Cond.methodLink RX4 217 yX3_get, Cond.instanceMethod yX3_get, Cond.selects RX3 yX3_get yX3_get, Cond.code yX3_get cX3_get 5 (some .int), Cond.fieldLink RX3 11 "LearnedShapes$Tree" "cells" "[I", Cond.methodLink RX4 220 yX3_above, Cond.instanceMethod yX3_above, Cond.selects RX3 yX3_above yX3_above, Cond.code yX3_above cX3_above 4 (some .int), Cond.methodLink RX3 32 yX3_get, Cond.methodLink RX4 223 yX3_countBelow, Cond.instanceMethod yX3_countBelow, Cond.selects RX3 yX3_countBelow yX3_countBelow, Cond.code yX3_countBelow cX3_countBelow 6 (some .int), Cond.methodLink RX3 36 yX3_behind, Cond.instanceMethod yX3_behind, Cond.selects RX3 yX3_behind yX3_behind, Cond.code yX3_behind cX3_behind 4 (some .int), Cond.methodLink RL 45 yX4_shape]
def wsL_node_r3 : List Cond := [Cond.instanceMethod yX4_shape, Cond.selects RX4 yX4_shape yX4_shape, Cond.code yX4_shape cX4_shape 3 (some .int), Cond.methodLink RX4 156 yX4_shapeNumber, Cond.static yX4_shapeNumber, Cond.code yX4_shapeNumber cX4_shapeNumber 4 (some .int), Cond.fieldLink RX4 226 "LearnedShapes$Tree" "documents" "I", Cond.fieldLink RX4 92 "LearnedShapes$Tree" "size" "I", Cond.methodLink RX4 229 Lib.Math.max.name, Cond.static Lib.Math.max.name, Cond.initialized "java/lang/Math", Cond.code Lib.Math.max.name Lib.Math.max.code 2 (some .int), Cond.methodLink RL 48 yX4_child, Cond.instanceMethod yX4_child, Cond.selects RX4 yX4_child yX4_child, Cond.code yX4_child cX4_child 4 (some .int), Cond.methodLink RX4 150 yX3_findBelow, Cond.instanceMethod yX3_findBelow, Cond.selects RX3 yX3_findBelow yX3_findBelow, Cond.code yX3_findBelow cX3_findBelow 5 (some .int), Cond.methodLink RX3 40 yX3_has]
def wsL_node : List Cond := .code yL_node cL_node 11 (some .boolean) :: ((wsL_node_r1 ++ (wsL_node_r2 ++ wsL_node_r3)) ++ wsX40 ++ wsX20 ++ wsX30 ++ (vx_atS RX4 53 "java/lang/IndexOutOfBoundsException" ["java/lang/RuntimeException", "java/lang/Exception"]).filter goodWord ++ (vx_atS RX4 68 "java/lang/IllegalArgumentException" ["java/lang/RuntimeException", "java/lang/Exception"]).filter goodWord)
def wsL_shape_r1 : List Cond := [Cond.methodLink RL 45 yX4_shape, Cond.instanceMethod yX4_shape, Cond.selects RX4 yX4_shape yX4_shape, Cond.initialized RX4, Cond.code yX4_shape cX4_shape 3 (some .int), Cond.classLink RX4 49 "java/lang/IndexOutOfBoundsException", Cond.initialized "java/lang/IndexOutOfBoundsException", Cond.classLink RX4 64 "java/lang/IllegalArgumentException", Cond.initialized "java/lang/IllegalArgumentException", Cond.fieldLink RX4 23 "LearnedShapes" "now" "LLearnedShapes$State;", Cond.methodLink RX4 45 yX4_isShape, Cond.static yX4_isShape, Cond.code yX4_isShape cX4_isShape 1 (some .boolean), Cond.methodLink RX4 69 yX2_tree, Cond.instanceMethod yX2_tree, Cond.selects RX2 yX2_tree yX2_tree, Cond.initialized RX2, Cond.code yX2_tree cX2_tree 2 (some (.object "LearnedShapes$Tree")), Cond.fieldLink RX2 10 "LearnedShapes$State" "first" "LLearnedShapes$Tree;", Cond.fieldLink RX2 16 "LearnedShapes$State" "second" "LLearnedShapes$Tree;", Cond.methodLink RX4 156 yX4_shapeNumber, Cond.static yX4_shapeNumber, Cond.code yX4_shapeNumber cX4_shapeNumber 4 (some .int), Cond.fieldLink RX4 226 "LearnedShapes$Tree" "documents" "I"]
def wsL_shape_r2 : List Cond := [Cond.fieldLink RX4 92 "LearnedShapes$Tree" "size" "I", Cond.methodLink RX4 229 Lib.Math.max.name, Cond.static Lib.Math.max.name, Cond.initialized "java/lang/Math", Cond.code Lib.Math.max.name Lib.Math.max.code 2 (some .int), Cond.methodLink RX4 217 yX3_get, Cond.instanceMethod yX3_get, Cond.selects RX3 yX3_get yX3_get, Cond.initialized RX3, Cond.code yX3_get cX3_get 5 (some .int), Cond.fieldLink RX3 15 "LearnedShapes$Tree" "size" "I", Cond.fieldLink RX3 11 "LearnedShapes$Tree" "cells" "[I", Cond.methodLink RL 51 yL_node, Cond.static yL_node, Cond.initialized RL, Cond.code yL_node cL_node 11 (some .boolean), Cond.methodLink RL 41 yX4_node, Cond.instanceMethod yX4_node, Cond.selects RX4 yX4_node yX4_node, Cond.code yX4_node cX4_node 4 (some .int), Cond.methodLink RX4 137 yX3_has, Cond.instanceMethod yX3_has, Cond.selects RX3 yX3_has yX3_has, Cond.code yX3_has cX3_has 2 (some .boolean)]
def wsL_shape_r3 : List Cond := [Cond.methodLink RX4 144 yX4_nodeNumber, Cond.static yX4_nodeNumber, Cond.code yX4_nodeNumber cX4_nodeNumber 3 (some .int), Cond.methodLink RX4 220 yX3_above, Cond.instanceMethod yX3_above, Cond.selects RX3 yX3_above yX3_above, Cond.code yX3_above cX3_above 4 (some .int), Cond.methodLink RX3 32 yX3_get, Cond.methodLink RX4 223 yX3_countBelow, Cond.instanceMethod yX3_countBelow, Cond.selects RX3 yX3_countBelow yX3_countBelow, Cond.code yX3_countBelow cX3_countBelow 6 (some .int), Cond.methodLink RX3 36 yX3_behind, Cond.instanceMethod yX3_behind, Cond.selects RX3 yX3_behind yX3_behind, Cond.code yX3_behind cX3_behind 4 (some .int), Cond.methodLink RL 48 yX4_child, Cond.instanceMethod yX4_child, Cond.selects RX4 yX4_child yX4_child, Cond.code yX4_child cX4_child 4 (some .int), Cond.methodLink RX4 150 yX3_findBelow, Cond.instanceMethod yX3_findBelow, Cond.selects RX3 yX3_findBelow yX3_findBelow, Cond.code yX3_findBelow cX3_findBelow 5 (some .int)]
def wsL_shape_r4 : List Cond := [Cond.methodLink RX3 40 yX3_has, Cond.methodLink RL 54 yX4_sureShare, Cond.instanceMethod yX4_sureShare, Cond.selects RX4 yX4_sureShare yX4_sureShare, Cond.code yX4_sureShare cX4_sureShare 2 (some .double), Cond.methodLink RX4 185 yX4_shareOfSure, Cond.static yX4_shareOfSure, Cond.code yX4_shareOfSure cX4_shareOfSure 3 (some .double)]
def wsL_shape : List Cond := .code yL_shape cL_shape 10 (some .boolean) :: ((wsL_shape_r1 ++ (wsL_shape_r2 ++ (wsL_shape_r3 ++ wsL_shape_r4))) ++ wsX40 ++ wsX20 ++ wsX30 ++ (vx_atS RX4 53 "java/lang/IndexOutOfBoundsException" ["java/lang/RuntimeException", "java/lang/Exception"]).filter goodWord ++ (vx_atS RX4 68 "java/lang/IllegalArgumentException" ["java/lang/RuntimeException", "java/lang/Exception"]).filter goodWord)
def wsL_law0_r1 : List Cond := [Cond.classLink RL 10 RX4, Cond.instantiable RX4 8, Cond.initialized RX4, Cond.methodLink RL 58 yX4_init, Cond.instanceMethod yX4_init, Cond.code yX4_init cX4_init 2 none, Cond.methodLink RX4 1 objectInit, Cond.instanceMethod objectInit, Cond.code objectInit ⟨#[0xb1]⟩ 1 none, Cond.arrayClass .int, Cond.fieldLink RX4 9 "LearnedShapes" "codes" "[I", Cond.classLink RX4 13 RX1, Cond.instantiable RX1 7, Cond.initialized RX1, Cond.fieldLink RX4 16 "LearnedShapes" "reader" "LLearnedShapes$Reader;", Cond.classLink RX4 20 RX2, Cond.instantiable RX2 3, Cond.initialized RX2, Cond.fieldLink RX4 23 "LearnedShapes" "now" "LLearnedShapes$State;", Cond.fieldLink RX4 27 "LearnedShapes" "saved" "[LLearnedShapes$State;", Cond.classLink RX4 31 RX3, Cond.instantiable RX3 3, Cond.initialized RX3, Cond.fieldLink RX4 34 "LearnedShapes" "work" "LLearnedShapes$Tree;"]
def wsL_law0_r2 : List Cond := [Cond.classLink RX4 38 RX0, Cond.instantiable RX0 3, Cond.initialized RX0, Cond.fieldLink RX4 41 "LearnedShapes" "misfit" "LLearnedShapes$Misfit;", Cond.instanceMethod yX1_init, Cond.code yX1_init cX1_init 1 none, Cond.methodLink RX1 3 objectInit, Cond.classLink RX1 9 RX3, Cond.fieldLink RX1 12 "LearnedShapes$Reader" "values" "LLearnedShapes$Tree;", Cond.instanceMethod yX3_init, Cond.code yX3_init cX3_init 1 none, Cond.methodLink RX3 3 objectInit, Cond.fieldLink RX3 11 "LearnedShapes$Tree" "cells" "[I", Cond.instanceMethod yX2_init, Cond.code yX2_init cX2_init 1 none, Cond.methodLink RX2 1 objectInit, Cond.classLink RX2 7 RX3, Cond.fieldLink RX2 10 "LearnedShapes$State" "first" "LLearnedShapes$Tree;", Cond.fieldLink RX2 16 "LearnedShapes$State" "second" "LLearnedShapes$Tree;", Cond.instanceMethod yX0_init, Cond.code yX0_init cX0_init 1 none, Cond.methodLink RX0 1 objectInit, Cond.methodLink RL 21 yL_cell, Cond.static yL_cell]
def wsL_law0_r3 : List Cond := [Cond.initialized RL, Cond.code yL_cell cL_cell 2 (some .int), Cond.constant RL 8 (40503), Cond.methodLink RL 15 yL_low, Cond.static yL_low, Cond.code yL_low cL_low 2 (some .int), Cond.constant RL 7 (2147483647), Cond.methodLink RL 59 yX4_count, Cond.instanceMethod yX4_count, Cond.selects RX4 yX4_count yX4_count, Cond.code yX4_count cX4_count 2 (some .int), Cond.classLink RX4 64 "java/lang/IllegalArgumentException", Cond.initialized "java/lang/IllegalArgumentException", Cond.methodLink RX4 168 yX4_stateNumber, Cond.instanceMethod yX4_stateNumber, Cond.selects RX4 yX4_stateNumber yX4_stateNumber, Cond.code yX4_stateNumber cX4_stateNumber 2 (some .int), Cond.fieldLink RX4 115 "LearnedShapes$State" "setting" "I", Cond.fieldLink RX4 56 "LearnedShapes" "length" "I", Cond.fieldLink RX4 125 "LearnedShapes" "savedStates" "I", Cond.methodLink RL 45 yX4_shape, Cond.instanceMethod yX4_shape, Cond.selects RX4 yX4_shape yX4_shape, Cond.code yX4_shape cX4_shape 3 (some .int)]
def wsL_law0_r4 : List Cond := [Cond.classLink RX4 49 "java/lang/IndexOutOfBoundsException", Cond.initialized "java/lang/IndexOutOfBoundsException", Cond.methodLink RX4 45 yX4_isShape, Cond.static yX4_isShape, Cond.code yX4_isShape cX4_isShape 1 (some .boolean), Cond.methodLink RX4 69 yX2_tree, Cond.instanceMethod yX2_tree, Cond.selects RX2 yX2_tree yX2_tree, Cond.code yX2_tree cX2_tree 2 (some (.object "LearnedShapes$Tree")), Cond.methodLink RX4 156 yX4_shapeNumber, Cond.static yX4_shapeNumber, Cond.code yX4_shapeNumber cX4_shapeNumber 4 (some .int), Cond.fieldLink RX4 226 "LearnedShapes$Tree" "documents" "I", Cond.fieldLink RX4 92 "LearnedShapes$Tree" "size" "I", Cond.methodLink RX4 229 Lib.Math.max.name, Cond.static Lib.Math.max.name, Cond.initialized "java/lang/Math", Cond.code Lib.Math.max.name Lib.Math.max.code 2 (some .int), Cond.methodLink RX4 217 yX3_get, Cond.instanceMethod yX3_get, Cond.selects RX3 yX3_get yX3_get, Cond.code yX3_get cX3_get 5 (some .int), Cond.fieldLink RX3 15 "LearnedShapes$Tree" "size" "I", Cond.methodLink RL 62 yX4_clearBuffer]
def wsL_law0_r5 : List Cond := [Cond.instanceMethod yX4_clearBuffer, Cond.selects RX4 yX4_clearBuffer yX4_clearBuffer, Cond.code yX4_clearBuffer cX4_clearBuffer 2 (some .int), Cond.methodLink RL 65 yL_types, Cond.static yL_types, Cond.code yL_types cL_types 16 (some .int), Cond.methodLink RL 9 yX4_append, Cond.instanceMethod yX4_append, Cond.selects RX4 yX4_append yX4_append, Cond.code yX4_append cX4_append 2 (some .int), Cond.classLink RX4 81 "java/lang/IllegalStateException", Cond.initialized "java/lang/IllegalStateException", Cond.methodLink RL 25 yL_simple, Cond.static yL_simple, Cond.code yL_simple cL_simple 3 none, Cond.methodLink RL 69 yX4_ifLearned, Cond.instanceMethod yX4_ifLearned, Cond.selects RX4 yX4_ifLearned yX4_ifLearned, Cond.code yX4_ifLearned cX4_ifLearned 3 (some .int), Cond.methodLink RX4 60 yX1_read, Cond.instanceMethod yX1_read, Cond.selects RX1 yX1_read yX1_read, Cond.code yX1_read cX1_read 4 (some .boolean), Cond.fieldLink RX1 21 "LearnedShapes$Reader" "state" "I"]
def wsL_law0_r6 : List Cond := [Cond.fieldLink RX1 25 "LearnedShapes$Reader" "open" "I", Cond.fieldLink RX1 28 "LearnedShapes$Reader" "letter" "I", Cond.fieldLink RX1 31 "LearnedShapes$Reader" "run" "I", Cond.fieldLink RX1 34 "LearnedShapes$Reader" "firstWrong" "I", Cond.fieldLink RX1 37 "LearnedShapes$Reader" "place" "I", Cond.methodLink RX1 18 yX3_clear, Cond.instanceMethod yX3_clear, Cond.selects RX3 yX3_clear yX3_clear, Cond.code yX3_clear cX3_clear 1 none, Cond.fieldLink RX3 19 "LearnedShapes$Tree" "documents" "I", Cond.methodLink RX1 40 yX1_take, Cond.instanceMethod yX1_take, Cond.selects RX1 yX1_take yX1_take, Cond.code yX1_take cX1_take 2 (some .boolean), Cond.methodLink RX1 44 yX1_endsNumber, Cond.instanceMethod yX1_endsNumber, Cond.selects RX1 yX1_endsNumber yX1_endsNumber, Cond.code yX1_endsNumber cX1_endsNumber 4 (some .boolean), Cond.methodLink RX1 70 yX1_isDigit, Cond.static yX1_isDigit, Cond.code yX1_isDigit cX1_isDigit 1 (some .boolean), Cond.methodLink RX1 47 yX1_stateBehindValue, Cond.instanceMethod yX1_stateBehindValue, Cond.selects RX1 yX1_stateBehindValue yX1_stateBehindValue]
def wsL_law0_r7 : List Cond := [Cond.code yX1_stateBehindValue cX1_stateBehindValue 1 (some .int), Cond.methodLink RX1 73 yX3_get, Cond.methodLink RX1 51 yX1_takeValue, Cond.instanceMethod yX1_takeValue, Cond.selects RX1 yX1_takeValue yX1_takeValue, Cond.code yX1_takeValue cX1_takeValue 6 (some .boolean), Cond.methodLink RX1 81 yX1_kindAt, Cond.static yX1_kindAt, Cond.code yX1_kindAt cX1_kindAt 1 (some .int), Cond.methodLink RX1 85 yX1_depthOfNext, Cond.instanceMethod yX1_depthOfNext, Cond.selects RX1 yX1_depthOfNext yX1_depthOfNext, Cond.code yX1_depthOfNext cX1_depthOfNext 1 (some .int), Cond.methodLink RX1 88 yX3_addRow, Cond.instanceMethod yX3_addRow, Cond.selects RX3 yX3_addRow yX3_addRow, Cond.code yX3_addRow cX3_addRow 3 (some .int), Cond.methodLink RX3 44 yX3_startRow, Cond.instanceMethod yX3_startRow, Cond.selects RX3 yX3_startRow yX3_startRow, Cond.code yX3_startRow cX3_startRow 5 none, Cond.methodLink RX3 48 yX3_put, Cond.instanceMethod yX3_put, Cond.selects RX3 yX3_put yX3_put]
def wsL_law0_r8 : List Cond := [Cond.code yX3_put cX3_put 5 none, Cond.methodLink RX1 77 yX3_put, Cond.methodLink RX1 91 yX1_stateInValue, Cond.instanceMethod yX1_stateInValue, Cond.selects RX1 yX1_stateInValue yX1_stateInValue, Cond.code yX1_stateInValue cX1_stateInValue 3 (some .int), Cond.methodLink RX1 54 yX1_takePart, Cond.instanceMethod yX1_takePart, Cond.selects RX1 yX1_takePart yX1_takePart, Cond.code yX1_takePart cX1_takePart 4 (some .boolean), Cond.methodLink RX1 57 yX1_closeValue, Cond.instanceMethod yX1_closeValue, Cond.selects RX1 yX1_closeValue yX1_closeValue, Cond.code yX1_closeValue cX1_closeValue 1 (some .boolean), Cond.methodLink RX1 61 yX1_takeComma, Cond.instanceMethod yX1_takeComma, Cond.selects RX1 yX1_takeComma yX1_takeComma, Cond.code yX1_takeComma cX1_takeComma 2 (some .boolean), Cond.methodLink RX1 64 yX1_takeInWord, Cond.instanceMethod yX1_takeInWord, Cond.selects RX1 yX1_takeInWord yX1_takeInWord, Cond.code yX1_takeInWord cX1_takeInWord 2 (some .boolean), Cond.methodLink RX1 67 yX1_takeInNumber, Cond.instanceMethod yX1_takeInNumber]
def wsL_law0_r9 : List Cond := [Cond.selects RX1 yX1_takeInNumber yX1_takeInNumber, Cond.code yX1_takeInNumber cX1_takeInNumber 2 (some .boolean), Cond.methodLink RX1 94 yX1_takePoint, Cond.instanceMethod yX1_takePoint, Cond.selects RX1 yX1_takePoint yX1_takePoint, Cond.code yX1_takePoint cX1_takePoint 2 (some .boolean), Cond.fieldLink RX1 97 "LearnedShapes$Tree" "size" "I", Cond.methodLink RX4 73 yX4_workOutLearned, Cond.instanceMethod yX4_workOutLearned, Cond.selects RX4 yX4_workOutLearned yX4_workOutLearned, Cond.code yX4_workOutLearned cX4_workOutLearned 5 none, Cond.methodLink RX4 107 yX3_copyFrom, Cond.instanceMethod yX3_copyFrom, Cond.selects RX3 yX3_copyFrom yX3_copyFrom, Cond.code yX3_copyFrom cX3_copyFrom 2 none, Cond.methodLink RX3 22 yX3_moveCells, Cond.static yX3_moveCells, Cond.code yX3_moveCells cX3_moveCells 8 none, Cond.methodLink RX3 26 arraycopyName, Cond.native arraycopyName, Cond.static arraycopyName, Cond.initialized "java/lang/System", Cond.methodLink RX4 245 yX3_put, Cond.methodLink RX4 249 yX4_showValue]
def wsL_law0_r10 : List Cond := [Cond.instanceMethod yX4_showValue, Cond.selects RX4 yX4_showValue yX4_showValue, Cond.code yX4_showValue cX4_showValue 10 none, Cond.methodLink RX4 150 yX3_findBelow, Cond.instanceMethod yX3_findBelow, Cond.selects RX3 yX3_findBelow yX3_findBelow, Cond.code yX3_findBelow cX3_findBelow 5 (some .int), Cond.methodLink RX3 40 yX3_has, Cond.instanceMethod yX3_has, Cond.selects RX3 yX3_has yX3_has, Cond.code yX3_has cX3_has 2 (some .boolean), Cond.methodLink RX3 32 yX3_get, Cond.methodLink RX4 253 yX3_insertBelow, Cond.instanceMethod yX3_insertBelow, Cond.selects RX3 yX3_insertBelow yX3_insertBelow, Cond.code yX3_insertBelow cX3_insertBelow 5 (some .int), Cond.methodLink RX4 256 yX4_joinKinds, Cond.static yX4_joinKinds, Cond.code yX4_joinKinds cX4_joinKinds 2 (some .int), Cond.methodLink RX4 259 yX3_dropBelow, Cond.instanceMethod yX3_dropBelow, Cond.selects RX3 yX3_dropBelow yX3_dropBelow, Cond.code yX3_dropBelow cX3_dropBelow 3 none, Cond.methodLink RX3 36 yX3_behind]
def wsL_law0_r11 : List Cond := [Cond.instanceMethod yX3_behind, Cond.selects RX3 yX3_behind yX3_behind, Cond.code yX3_behind cX3_behind 4 (some .int), Cond.methodLink RX4 179 yX4_outlookNumber, Cond.instanceMethod yX4_outlookNumber, Cond.selects RX4 yX4_outlookNumber yX4_outlookNumber, Cond.code yX4_outlookNumber cX4_outlookNumber 10 (some .int), Cond.methodLink RX4 77 yX4_isRefused, Cond.instanceMethod yX4_isRefused, Cond.selects RX4 yX4_isRefused yX4_isRefused, Cond.code yX4_isRefused cX4_isRefused 2 (some .boolean), Cond.methodLink RX4 263 yX4_bringsAny, Cond.instanceMethod yX4_bringsAny, Cond.selects RX4 yX4_bringsAny yX4_bringsAny, Cond.code yX4_bringsAny cX4_bringsAny 4 (some .boolean), Cond.methodLink RL 72 yL_learn, Cond.static yL_learn, Cond.codeWith yL_learn cL_learn 3 (some .int) [(0, 5, 6, 32)], Cond.classLink RL 32 "java/lang/IllegalStateException", Cond.methodLink RL 29 yX4_learn, Cond.instanceMethod yX4_learn, Cond.selects RX4 yX4_learn yX4_learn, Cond.code yX4_learn cX4_learn 3 (some .int), Cond.methodLink RX4 86 yX4_saveState]
def wsL_law0_r12 : List Cond := [Cond.instanceMethod yX4_saveState, Cond.selects RX4 yX4_saveState yX4_saveState, Cond.code yX4_saveState cX4_saveState 2 none, Cond.methodLink RX4 211 yX4_dropOldest, Cond.instanceMethod yX4_dropOldest, Cond.selects RX4 yX4_dropOldest yX4_dropOldest, Cond.code yX4_dropOldest cX4_dropOldest 3 none, Cond.methodLink RX4 128 yX4_savedAt, Cond.instanceMethod yX4_savedAt, Cond.selects RX4 yX4_savedAt yX4_savedAt, Cond.code yX4_savedAt cX4_savedAt 2 (some (.object "LearnedShapes$State")), Cond.methodLink RX4 134 yX2_copyFrom, Cond.instanceMethod yX2_copyFrom, Cond.selects RX2 yX2_copyFrom yX2_copyFrom, Cond.code yX2_copyFrom cX2_copyFrom 2 none, Cond.fieldLink RX2 23 "LearnedShapes$State" "setting" "I", Cond.methodLink RX2 19 yX3_copyFrom, Cond.methodLink RX4 89 yX4_takeWork, Cond.instanceMethod yX4_takeWork, Cond.selects RX4 yX4_takeWork yX4_takeWork, Cond.code yX4_takeWork cX4_takeWork 2 none, Cond.methodLink RX4 214 yX3_markOptional, Cond.instanceMethod yX3_markOptional, Cond.selects RX3 yX3_markOptional yX3_markOptional]
def wsL_law0_r13 : List Cond := [Cond.code yX3_markOptional cX3_markOptional 5 none, Cond.methodLink RX3 51 yX3_above, Cond.instanceMethod yX3_above, Cond.selects RX3 yX3_above yX3_above, Cond.code yX3_above cX3_above 4 (some .int), Cond.methodLink RL 75 yL_join, Cond.static yL_join, Cond.codeWith yL_join cL_join 3 (some .int) [(0, 5, 6, 32)], Cond.methodLink RL 34 yX4_join, Cond.instanceMethod yX4_join, Cond.selects RX4 yX4_join yX4_join, Cond.code yX4_join cX4_join 3 (some .int), Cond.methodLink RX4 95 yX4_workOutJoined, Cond.instanceMethod yX4_workOutJoined, Cond.selects RX4 yX4_workOutJoined yX4_workOutJoined, Cond.code yX4_workOutJoined cX4_workOutJoined 3 none, Cond.methodLink RX4 101 yX3_clear, Cond.methodLink RX4 266 yX4_joinNodes, Cond.static yX4_joinNodes, Cond.code yX4_joinNodes cX4_joinNodes 15 none, Cond.methodLink RX4 270 yX3_addRow, Cond.methodLink RL 77 yX4_covers, Cond.instanceMethod yX4_covers, Cond.selects RX4 yX4_covers yX4_covers]
def wsL_law0_r14 : List Cond := [Cond.code yX4_covers cX4_covers 2 (some .int), Cond.methodLink RX4 182 yX4_coversOther, Cond.instanceMethod yX4_coversOther, Cond.selects RX4 yX4_coversOther yX4_coversOther, Cond.code yX4_coversOther cX4_coversOther 4 (some .boolean), Cond.methodLink RX4 273 yX4_coversNode, Cond.static yX4_coversNode, Cond.code yX4_coversNode cX4_coversNode 10 (some .boolean), Cond.methodLink RX4 277 yX4_mustBeThere, Cond.static yX4_mustBeThere, Cond.code yX4_mustBeThere cX4_mustBeThere 2 (some .boolean), Cond.methodLink RX4 137 yX3_has, Cond.methodLink RL 80 yX4_forget, Cond.instanceMethod yX4_forget, Cond.selects RX4 yX4_forget yX4_forget, Cond.code yX4_forget cX4_forget 4 (some .int), Cond.methodLink RL 83 yX4_swap, Cond.instanceMethod yX4_swap, Cond.selects RX4 yX4_swap yX4_swap, Cond.code yX4_swap cX4_swap 1 (some .int), Cond.fieldLink RX4 104 "LearnedShapes$State" "first" "LLearnedShapes$Tree;", Cond.fieldLink RX4 110 "LearnedShapes$State" "second" "LLearnedShapes$Tree;", Cond.methodLink RL 86 yX4_set, Cond.instanceMethod yX4_set]
def wsL_law0_r15 : List Cond := [Cond.selects RX4 yX4_set yX4_set, Cond.code yX4_set cX4_set 3 (some .int), Cond.methodLink RL 89 yL_undo, Cond.static yL_undo, Cond.codeWith yL_undo cL_undo 2 (some .int) [(0, 4, 5, 32)], Cond.methodLink RL 37 yX4_undo, Cond.instanceMethod yX4_undo, Cond.selects RX4 yX4_undo yX4_undo, Cond.code yX4_undo cX4_undo 2 (some .int), Cond.methodLink RL 92 yL_shape, Cond.static yL_shape, Cond.code yL_shape cL_shape 10 (some .boolean), Cond.methodLink RL 51 yL_node, Cond.static yL_node, Cond.code yL_node cL_node 11 (some .boolean), Cond.methodLink RL 41 yX4_node, Cond.instanceMethod yX4_node, Cond.selects RX4 yX4_node yX4_node, Cond.code yX4_node cX4_node 4 (some .int), Cond.methodLink RX4 144 yX4_nodeNumber, Cond.static yX4_nodeNumber, Cond.code yX4_nodeNumber cX4_nodeNumber 3 (some .int), Cond.methodLink RX4 220 yX3_above, Cond.methodLink RX4 223 yX3_countBelow]
def wsL_law0_r16 : List Cond := [Cond.instanceMethod yX3_countBelow, Cond.selects RX3 yX3_countBelow yX3_countBelow, Cond.code yX3_countBelow cX3_countBelow 6 (some .int), Cond.methodLink RL 48 yX4_child, Cond.instanceMethod yX4_child, Cond.selects RX4 yX4_child yX4_child, Cond.code yX4_child cX4_child 4 (some .int), Cond.methodLink RL 54 yX4_sureShare, Cond.instanceMethod yX4_sureShare, Cond.selects RX4 yX4_sureShare yX4_sureShare, Cond.code yX4_sureShare cX4_sureShare 2 (some .double), Cond.methodLink RX4 185 yX4_shareOfSure, Cond.static yX4_shareOfSure, Cond.code yX4_shareOfSure cX4_shareOfSure 3 (some .double)]
def wsL_law0 : List Cond := (wsL_law0_r1 ++ (wsL_law0_r2 ++ (wsL_law0_r3 ++ (wsL_law0_r4 ++ (wsL_law0_r5 ++ (wsL_law0_r6 ++ (wsL_law0_r7 ++ (wsL_law0_r8 ++ (wsL_law0_r9 ++ (wsL_law0_r10 ++ (wsL_law0_r11 ++ (wsL_law0_r12 ++ (wsL_law0_r13 ++ (wsL_law0_r14 ++ (wsL_law0_r15 ++ wsL_law0_r16))))))))))))))) ++ wsX40 ++ wsX10 ++ wsX20 ++ wsX30 ++ wsX00 ++ ([] : List Cond)
def wsL_law : List Cond := wsL_law0 ++ (vx_atS RX4 68 "java/lang/IllegalArgumentException" ["java/lang/RuntimeException", "java/lang/Exception"]).filter goodWord ++ (vx_atS RX4 53 "java/lang/IndexOutOfBoundsException" ["java/lang/RuntimeException", "java/lang/Exception"]).filter goodWord ++ (vx_atS RX4 85 "java/lang/IllegalStateException" ["java/lang/RuntimeException", "java/lang/Exception"]).filter goodWord
set_option maxRecDepth 20000 in
theorem wsL_law0_r1_i : ∀ w ∈ wsL_law0_r1, w ∈ lw_tbl := fun w h => (goodIn_p wsL_law0_r1 [44, 47] (by decide +kernel) (by decide +kernel) w h).1
set_option maxRecDepth 20000 in
theorem wsL_law0_r2_i : ∀ w ∈ wsL_law0_r2, w ∈ lw_tbl := fun w h => (goodIn_p wsL_law0_r2 [52, 58, 101, 125] (by decide +kernel) (by decide +kernel) w h).1
set_option maxRecDepth 20000 in
theorem wsL_law0_r3_i : ∀ w ∈ wsL_law0_r3, w ∈ lw_tbl := fun w h => (goodIn_p wsL_law0_r3 [465, 461, 315, 320, 300] (by decide +kernel) (by decide +kernel) w h).1
set_option maxRecDepth 20000 in
theorem wsL_law0_r4_i : ∀ w ∈ wsL_law0_r4, w ∈ lw_tbl := fun w h => (goodIn_p wsL_law0_r4 [165, 263, 304, 311, 308] (by decide +kernel) (by decide +kernel) w h).1
set_option maxRecDepth 20000 in
theorem wsL_law0_r5_i : ∀ w ∈ wsL_law0_r5, w ∈ lw_tbl := fun w h => (goodIn_p wsL_law0_r5 [296, 469, 473, 493, 324, 329] (by decide +kernel) (by decide +kernel) w h).1
set_option maxRecDepth 20000 in
theorem wsL_law0_r6_i : ∀ w ∈ wsL_law0_r6, w ∈ lw_tbl := fun w h => (goodIn_p wsL_law0_r6 [267, 334, 338, 341] (by decide +kernel) (by decide +kernel) w h).1
set_option maxRecDepth 20000 in
theorem wsL_law0_r7_i : ∀ w ∈ wsL_law0_r7, w ∈ lw_tbl := fun w h => (goodIn_p wsL_law0_r7 [345, 350, 353, 357, 361, 365] (by decide +kernel) (by decide +kernel) w h).1
set_option maxRecDepth 20000 in
theorem wsL_law0_r8_i : ∀ w ∈ wsL_law0_r8, w ∈ lw_tbl := fun w h => (goodIn_p wsL_law0_r8 [369, 374, 378, 382, 386, 390] (by decide +kernel) (by decide +kernel) w h).1
set_option maxRecDepth 20000 in
theorem wsL_law0_r9_i : ∀ w ∈ wsL_law0_r9, w ∈ lw_tbl := fun w h => (goodIn_p wsL_law0_r9 [394, 398, 402, 253, 256] (by decide +kernel) (by decide +kernel) w h).1
set_option maxRecDepth 20000 in
theorem wsL_law0_r10_i : ∀ w ∈ wsL_law0_r10, w ∈ lw_tbl := fun w h => (goodIn_p wsL_law0_r10 [407, 411, 415, 420, 423, 427] (by decide +kernel) (by decide +kernel) w h).1
set_option maxRecDepth 20000 in
theorem wsL_law0_r11_i : ∀ w ∈ wsL_law0_r11, w ∈ lw_tbl := fun w h => (goodIn_p wsL_law0_r11 [431, 435, 439, 443, 501] (by decide +kernel) (by decide +kernel) w h).1
set_option maxRecDepth 20000 in
theorem wsL_law0_r12_i : ∀ w ∈ wsL_law0_r12, w ∈ lw_tbl := fun w h => (goodIn_p wsL_law0_r12 [237, 241, 245, 249, 507] (by decide +kernel) (by decide +kernel) w h).1
set_option maxRecDepth 20000 in
theorem wsL_law0_r13_i : ∀ w ∈ wsL_law0_r13, w ∈ lw_tbl := fun w h => (goodIn_p wsL_law0_r13 [511, 515, 522, 526, 529] (by decide +kernel) (by decide +kernel) w h).1
set_option maxRecDepth 20000 in
theorem wsL_law0_r14_i : ∀ w ∈ wsL_law0_r14, w ∈ lw_tbl := fun w h => (goodIn_p wsL_law0_r14 [447, 451, 454, 457, 162, 271] (by decide +kernel) (by decide +kernel) w h).1
set_option maxRecDepth 20000 in
theorem wsL_law0_r15_i : ∀ w ∈ wsL_law0_r15, w ∈ lw_tbl := fun w h => (goodIn_p wsL_law0_r15 [276, 538, 542, 545, 549, 554] (by decide +kernel) (by decide +kernel) w h).1
set_option maxRecDepth 20000 in
theorem wsL_law0_r16_i : ∀ w ∈ wsL_law0_r16, w ∈ lw_tbl := fun w h => (goodIn_p wsL_law0_r16 [559, 563, 568, 571] (by decide +kernel) (by decide +kernel) w h).1
theorem wsL_t_wsX40 : ∀ w ∈ wsX40, w ∈ lw_tbl := by decide +kernel
theorem wsL_t_wsX10 : ∀ w ∈ wsX10, w ∈ lw_tbl := by decide +kernel
theorem wsL_t_wsX20 : ∀ w ∈ wsX20, w ∈ lw_tbl := by decide +kernel
theorem wsL_t_wsX30 : ∀ w ∈ wsX30, w ∈ lw_tbl := by decide +kernel
theorem wsL_t_wsX00 : ∀ w ∈ wsX00, w ∈ lw_tbl := by decide +kernel
theorem wsL_law_in0 : ∀ w ∈ wsL_law0, w ∈ lw_tbl := fun w => (fun h => (List.mem_append.mp h).elim (fun h => (List.mem_append.mp h).elim (fun h => (List.mem_append.mp h).elim (fun h => (List.mem_append.mp h).elim (fun h => (List.mem_append.mp h).elim (fun h => (List.mem_append.mp h).elim (fun h => (List.mem_append.mp h).elim (wsL_law0_r1_i w) (fun h => (List.mem_append.mp h).elim (wsL_law0_r2_i w) (fun h => (List.mem_append.mp h).elim (wsL_law0_r3_i w) (fun h => (List.mem_append.mp h).elim (wsL_law0_r4_i w) (fun h => (List.mem_append.mp h).elim (wsL_law0_r5_i w) (fun h => (List.mem_append.mp h).elim (wsL_law0_r6_i w) (fun h => (List.mem_append.mp h).elim (wsL_law0_r7_i w) (fun h => (List.mem_append.mp h).elim (wsL_law0_r8_i w) (fun h => (List.mem_append.mp h).elim (wsL_law0_r9_i w) (fun h => (List.mem_append.mp h).elim (wsL_law0_r10_i w) (fun h => (List.mem_append.mp h).elim (wsL_law0_r11_i w) (fun h => (List.mem_append.mp h).elim (wsL_law0_r12_i w) (fun h => (List.mem_append.mp h).elim (wsL_law0_r13_i w) (fun h => (List.mem_append.mp h).elim (wsL_law0_r14_i w) (fun h => (List.mem_append.mp h).elim (wsL_law0_r15_i w) (wsL_law0_r16_i w)))))))))))))))) (wsL_t_wsX40 w)) (wsL_t_wsX10 w)) (wsL_t_wsX20 w)) (wsL_t_wsX30 w)) (wsL_t_wsX00 w)) (fun h => absurd h List.not_mem_nil))
theorem wsL_law_x0 : ∀ w ∈ (vx_atS RX4 68 "java/lang/IllegalArgumentException" ["java/lang/RuntimeException", "java/lang/Exception"]).filter goodWord, w ∈ lw_tbl := by decide +kernel
theorem wsL_law_x1 : ∀ w ∈ (vx_atS RX4 53 "java/lang/IndexOutOfBoundsException" ["java/lang/RuntimeException", "java/lang/Exception"]).filter goodWord, w ∈ lw_tbl := by decide +kernel
theorem wsL_law_x2 : ∀ w ∈ (vx_atS RX4 85 "java/lang/IllegalStateException" ["java/lang/RuntimeException", "java/lang/Exception"]).filter goodWord, w ∈ lw_tbl := by decide +kernel
theorem wsL_law_in : ∀ w ∈ wsL_law, w ∈ lw_tbl := fun w h => (List.mem_append.mp h).elim (fun h => (List.mem_append.mp h).elim (fun h => (List.mem_append.mp h).elim (fun h => wsL_law_in0 w h) (fun h => wsL_law_x0 w h)) (fun h => wsL_law_x1 w h)) (fun h => wsL_law_x2 w h)
theorem inlX0 : ∀ w ∈ wsX00, w ∈ wsL_law := fun _ h => List.mem_append_left _ (List.mem_append_left _ (List.mem_append_left _ (List.mem_append_left _ (List.mem_append_right _ h))))
theorem inX0 : ∀ w ∈ wsX00, w ∈ lw_tbl := fun w h => wsL_law_in w (inlX0 w h)
theorem inlX1 : ∀ w ∈ wsX10, w ∈ wsL_law := fun _ h => List.mem_append_left _ (List.mem_append_left _ (List.mem_append_left _ (List.mem_append_left _ (List.mem_append_left _ (List.mem_append_left _ (List.mem_append_left _ (List.mem_append_right _ h)))))))
theorem inX1 : ∀ w ∈ wsX10, w ∈ lw_tbl := fun w h => wsL_law_in w (inlX1 w h)
theorem inlX2 : ∀ w ∈ wsX20, w ∈ wsL_law := fun _ h => List.mem_append_left _ (List.mem_append_left _ (List.mem_append_left _ (List.mem_append_left _ (List.mem_append_left _ (List.mem_append_left _ (List.mem_append_right _ h))))))
theorem inX2 : ∀ w ∈ wsX20, w ∈ lw_tbl := fun w h => wsL_law_in w (inlX2 w h)
theorem inlX3 : ∀ w ∈ wsX30, w ∈ wsL_law := fun _ h => List.mem_append_left _ (List.mem_append_left _ (List.mem_append_left _ (List.mem_append_left _ (List.mem_append_left _ (List.mem_append_right _ h)))))
theorem inX3 : ∀ w ∈ wsX30, w ∈ lw_tbl := fun w h => wsL_law_in w (inlX3 w h)
theorem inlX4 : ∀ w ∈ wsX40, w ∈ wsL_law := fun _ h => List.mem_append_left _ (List.mem_append_left _ (List.mem_append_left _ (List.mem_append_left _ (List.mem_append_left _ (List.mem_append_left _ (List.mem_append_left _ (List.mem_append_left _ (List.mem_append_right _ h))))))))
theorem inX4 : ∀ w ∈ wsX40, w ∈ lw_tbl := fun w h => wsL_law_in w (inlX4 w h)
theorem inX5 : ∀ w ∈ wsX50, w ∈ lw_tbl := by decide +kernel
theorem inJ9 : ∀ w ∈ wsJ90, w ∈ lw_tbl := by decide +kernel
theorem inJ0 : ∀ w ∈ wsJ00, w ∈ lw_tbl := by decide +kernel
theorem inJ10 : ∀ w ∈ wsJ100, w ∈ lw_tbl := by decide +kernel
set_option maxRecDepth 20000 in
theorem ggX1_init_X3_init : GoodIn wsX1_init wsX3_init := goodIn_r _ [9, 10, 2, 3, 11, 12, 13, 14, 15] (by decide +kernel) (by decide +kernel)
set_option maxRecDepth 20000 in
theorem gX1_init_X3_init_n11 : GoodIn wsX1_init (wsX3_init) := ggX1_init_X3_init
set_option maxRecDepth 20000 in
theorem ggX1_read_X3_clear : GoodIn wsX1_read wsX3_clear := goodIn_r _ [12, 13, 14, 96, 97, 98] (by decide +kernel) (by decide +kernel)
set_option maxRecDepth 20000 in
theorem gX1_read_X3_clear : GoodIn wsX1_read (wsV RX1 18 RX3 yX3_clear wsX3_clear) := goodIn_app (goodIn_of _ (by decide +kernel)) ggX1_read_X3_clear
set_option maxRecDepth 20000 in
theorem ggX1_read_X1_take : GoodIn wsX1_read wsX1_take := goodIn_r _ [19, 2, 20, 21, 22, 18, 23, 24, 25, 26, 27, 28, 29, 30, 3, 1, 31, 32, 33, 11, 34, 13, 35, 36, 37, 38, 39, 4, 7, 5, 40, 41, 42, 43, 44, 45, 46, 47, 48, 49, 50, 51, 52, 53, 54, 55, 56, 57, 58, 59, 60, 61, 62, 63, 64, 65, 66, 67, 68, 69, 70, 71, 72, 73, 74, 75, 76, 77, 78, 79, 80, 81, 82, 83, 84, 85, 86, 87, 88, 89, 90, 91, 92, 93, 94, 95, 96, 97, 98] (by decide +kernel) (by decide +kernel)
set_option maxRecDepth 20000 in
theorem gX1_read_X1_take : GoodIn wsX1_read (wsV RX1 40 RX1 yX1_take wsX1_take) := goodIn_app (goodIn_of _ (by decide +kernel)) ggX1_read_X1_take
set_option maxRecDepth 20000 in
theorem ggX1_take_X1_endsNumber : GoodIn wsX1_take wsX1_endsNumber := goodIn_r _ [6, 1, 7, 8, 5, 9, 79, 80, 81, 82, 83, 84, 85] (by decide +kernel) (by decide +kernel)
set_option maxRecDepth 20000 in
theorem gX1_take_X1_endsNumber : GoodIn wsX1_take (wsV RX1 44 RX1 yX1_endsNumber wsX1_endsNumber) := goodIn_app (goodIn_of _ (by decide +kernel)) ggX1_take_X1_endsNumber
set_option maxRecDepth 20000 in
theorem ggX1_take_X1_stateBehindValue : GoodIn wsX1_take wsX1_stateBehindValue := goodIn_r _ [13, 14, 15, 16, 17, 18, 19, 20, 21, 22, 79, 80, 81, 82, 83, 84, 85, 86, 87, 88] (by decide +kernel) (by decide +kernel)
set_option maxRecDepth 20000 in
theorem gX1_take_X1_stateBehindValue : GoodIn wsX1_take (wsV RX1 47 RX1 yX1_stateBehindValue wsX1_stateBehindValue) := goodIn_app (goodIn_of _ (by decide +kernel)) ggX1_take_X1_stateBehindValue
set_option maxRecDepth 20000 in
theorem ggX1_take_X1_takeValue : GoodIn wsX1_take wsX1_takeValue := goodIn_r _ [26, 15, 14, 27, 28, 29, 1, 30, 31, 5, 32, 7, 8, 9, 33, 34, 35, 36, 16, 17, 18, 19, 20, 21, 22, 37, 38, 39, 40, 41, 42, 43, 44, 45, 46, 47, 48, 49, 50, 51, 52, 53, 10, 11, 12, 13, 79, 80, 81, 82, 83, 84, 85, 86, 87, 88] (by decide +kernel) (by decide +kernel)
set_option maxRecDepth 20000 in
theorem gX1_take_X1_takeValue : GoodIn wsX1_take (wsV RX1 51 RX1 yX1_takeValue wsX1_takeValue) := goodIn_app (goodIn_of _ (by decide +kernel)) ggX1_take_X1_takeValue
set_option maxRecDepth 20000 in
theorem ggX1_take_X1_takePart : GoodIn wsX1_take wsX1_takePart := goodIn_r _ [57, 27, 15, 14, 1, 58, 59, 60, 5, 61, 28, 49, 46, 47, 19, 48, 21, 22, 16, 17, 18, 20, 10, 11, 12, 13, 79, 80, 81, 82, 83, 84, 85, 86, 87, 88] (by decide +kernel) (by decide +kernel)
set_option maxRecDepth 20000 in
theorem gX1_take_X1_takePart : GoodIn wsX1_take (wsV RX1 54 RX1 yX1_takePart wsX1_takePart) := goodIn_app (goodIn_of _ (by decide +kernel)) ggX1_take_X1_takePart
set_option maxRecDepth 20000 in
theorem ggX1_take_X1_closeValue : GoodIn wsX1_take wsX1_closeValue := goodIn_r _ [61, 15, 14, 28, 1, 49, 46, 47, 19, 48, 21, 22, 16, 17, 18, 20, 10, 11, 12, 5, 13, 79, 80, 81, 82, 83, 84, 85, 86, 87, 88] (by decide +kernel) (by decide +kernel)
set_option maxRecDepth 20000 in
theorem gX1_take_X1_closeValue : GoodIn wsX1_take (wsV RX1 57 RX1 yX1_closeValue wsX1_closeValue) := goodIn_app (goodIn_of _ (by decide +kernel)) ggX1_take_X1_closeValue
set_option maxRecDepth 20000 in
theorem ggX1_take_X1_takeComma : GoodIn wsX1_take wsX1_takeComma := goodIn_r _ [65, 1, 79, 80, 81, 82, 83, 84, 85] (by decide +kernel) (by decide +kernel)
set_option maxRecDepth 20000 in
theorem gX1_take_X1_takeComma : GoodIn wsX1_take (wsV RX1 61 RX1 yX1_takeComma wsX1_takeComma) := goodIn_app (goodIn_of _ (by decide +kernel)) ggX1_take_X1_takeComma
set_option maxRecDepth 20000 in
theorem ggX1_take_X1_takeInWord : GoodIn wsX1_take wsX1_takeInWord := goodIn_r _ [69, 29, 1, 10, 11, 12, 5, 13, 14, 15, 16, 17, 18, 19, 20, 21, 22, 79, 80, 81, 82, 83, 84, 85, 86, 87, 88] (by decide +kernel) (by decide +kernel)
set_option maxRecDepth 20000 in
theorem gX1_take_X1_takeInWord : GoodIn wsX1_take (wsV RX1 64 RX1 yX1_takeInWord wsX1_takeInWord) := goodIn_app (goodIn_of _ (by decide +kernel)) ggX1_take_X1_takeInWord
set_option maxRecDepth 20000 in
theorem ggX1_take_X1_takeInNumber : GoodIn wsX1_take wsX1_takeInNumber := goodIn_r _ [73, 1, 29, 74, 75, 76, 5, 77, 15, 78, 49, 46, 47, 19, 48, 21, 22, 7, 8, 9, 79, 80, 81, 82, 83, 84, 85, 86, 87, 88] (by decide +kernel) (by decide +kernel)
set_option maxRecDepth 20000 in
theorem gX1_take_X1_takeInNumber : GoodIn wsX1_take (wsV RX1 67 RX1 yX1_takeInNumber wsX1_takeInNumber) := goodIn_app (goodIn_of _ (by decide +kernel)) ggX1_take_X1_takeInNumber
set_option maxRecDepth 20000 in
theorem ggX1_endsNumber_X1_isDigit : GoodIn wsX1_endsNumber wsX1_isDigit := goodIn_r _ [5] (by decide +kernel) (by decide +kernel)
set_option maxRecDepth 20000 in
theorem gX1_endsNumber_X1_isDigit : GoodIn wsX1_endsNumber (va_wsS RX1 70 yX1_isDigit wsX1_isDigit) := goodIn_app (goodIn_of _ (by decide +kernel)) ggX1_endsNumber_X1_isDigit
set_option maxRecDepth 20000 in
theorem ggX1_takePart_X1_closeValue : GoodIn wsX1_takePart wsX1_closeValue := goodIn_r _ [9, 2, 3, 10, 4, 11, 12, 13, 14, 15, 16, 17, 18, 19, 20, 21, 22, 23, 24, 8, 25, 26, 27, 28, 29, 30, 31, 32, 33, 34, 35] (by decide +kernel) (by decide +kernel)
set_option maxRecDepth 20000 in
theorem gX1_takePart_X1_closeValue : GoodIn wsX1_takePart (wsV RX1 57 RX1 yX1_closeValue wsX1_closeValue) := goodIn_app (goodIn_of _ (by decide +kernel)) ggX1_takePart_X1_closeValue
set_option maxRecDepth 20000 in
theorem ggX1_takePart_X3_get : GoodIn wsX1_takePart wsX3_get := goodIn_r _ [21, 16, 17, 33, 34, 35] (by decide +kernel) (by decide +kernel)
set_option maxRecDepth 20000 in
theorem gX1_takePart_X3_get : GoodIn wsX1_takePart (wsV RX1 73 RX3 yX3_get wsX3_get) := goodIn_app (goodIn_of _ (by decide +kernel)) ggX1_takePart_X3_get
set_option maxRecDepth 20000 in
theorem ggX1_takePart_X3_put : GoodIn wsX1_takePart wsX3_put := goodIn_r _ [15, 16, 17, 33, 34, 35] (by decide +kernel) (by decide +kernel)
set_option maxRecDepth 20000 in
theorem gX1_takePart_X3_put : GoodIn wsX1_takePart (wsV RX1 77 RX3 yX3_put wsX3_put) := goodIn_app (goodIn_of _ (by decide +kernel)) ggX1_takePart_X3_put
set_option maxRecDepth 20000 in
theorem ggX1_takeValue_X1_kindAt : GoodIn wsX1_takeValue wsX1_kindAt := goodIn_r _ [10, 11, 12, 9, 13] (by decide +kernel) (by decide +kernel)
set_option maxRecDepth 20000 in
theorem gX1_takeValue_X1_kindAt : GoodIn wsX1_takeValue (va_wsS RX1 81 yX1_kindAt wsX1_kindAt) := goodIn_app (goodIn_of _ (by decide +kernel)) ggX1_takeValue_X1_kindAt
set_option maxRecDepth 20000 in
theorem ggX1_takeValue_X1_depthOfNext : GoodIn wsX1_takeValue wsX1_depthOfNext := goodIn_r _ [17, 2, 1, 18, 19, 20, 21, 22, 23, 24, 46, 47, 48, 49, 50, 51, 52, 53, 54, 55] (by decide +kernel) (by decide +kernel)
set_option maxRecDepth 20000 in
theorem gX1_takeValue_X1_depthOfNext : GoodIn wsX1_takeValue (wsV RX1 85 RX1 yX1_depthOfNext wsX1_depthOfNext) := goodIn_app (goodIn_of _ (by decide +kernel)) ggX1_takeValue_X1_depthOfNext
set_option maxRecDepth 20000 in
theorem ggX1_takeValue_X3_get : GoodIn wsX1_takeValue wsX3_get := goodIn_r _ [22, 23, 24, 53, 54, 55] (by decide +kernel) (by decide +kernel)
set_option maxRecDepth 20000 in
theorem gX1_takeValue_X3_get : GoodIn wsX1_takeValue (wsV RX1 73 RX3 yX3_get wsX3_get) := goodIn_app (goodIn_of _ (by decide +kernel)) ggX1_takeValue_X3_get
set_option maxRecDepth 20000 in
theorem ggX1_takeValue_X3_addRow : GoodIn wsX1_takeValue wsX3_addRow := goodIn_r _ [28, 23, 29, 30, 31, 21, 32, 33, 34, 35, 36, 24, 53, 54, 55] (by decide +kernel) (by decide +kernel)
set_option maxRecDepth 20000 in
theorem gX1_takeValue_X3_addRow : GoodIn wsX1_takeValue (wsV RX1 88 RX3 yX3_addRow wsX3_addRow) := goodIn_app (goodIn_of _ (by decide +kernel)) ggX1_takeValue_X3_addRow
set_option maxRecDepth 20000 in
theorem ggX1_takeValue_X3_put : GoodIn wsX1_takeValue wsX3_put := goodIn_r _ [36, 23, 24, 53, 54, 55] (by decide +kernel) (by decide +kernel)
set_option maxRecDepth 20000 in
theorem gX1_takeValue_X3_put : GoodIn wsX1_takeValue (wsV RX1 77 RX3 yX3_put wsX3_put) := goodIn_app (goodIn_of _ (by decide +kernel)) ggX1_takeValue_X3_put
set_option maxRecDepth 20000 in
theorem ggX1_takeValue_X1_stateInValue : GoodIn wsX1_takeValue wsX1_stateInValue := goodIn_r _ [41, 42, 43, 44, 9, 45, 2, 1, 18, 19, 20, 21, 22, 23, 24, 46, 47, 48, 49, 50, 51, 52, 53, 54, 55] (by decide +kernel) (by decide +kernel)
set_option maxRecDepth 20000 in
theorem gX1_takeValue_X1_stateInValue : GoodIn wsX1_takeValue (wsV RX1 91 RX1 yX1_stateInValue wsX1_stateInValue) := goodIn_app (goodIn_of _ (by decide +kernel)) ggX1_takeValue_X1_stateInValue
set_option maxRecDepth 20000 in
theorem ggX1_stateInValue_X1_stateBehindValue : GoodIn wsX1_stateInValue wsX1_stateBehindValue := goodIn_r _ [5, 6, 7, 8, 9, 10, 11, 12, 13, 14, 15, 16, 17, 18, 19, 20, 21, 22, 23, 24] (by decide +kernel) (by decide +kernel)
set_option maxRecDepth 20000 in
theorem gX1_stateInValue_X1_stateBehindValue : GoodIn wsX1_stateInValue (wsV RX1 47 RX1 yX1_stateBehindValue wsX1_stateBehindValue) := goodIn_app (goodIn_of _ (by decide +kernel)) ggX1_stateInValue_X1_stateBehindValue
set_option maxRecDepth 20000 in
theorem ggX1_kindAt_X1_isDigit : GoodIn wsX1_kindAt wsX1_isDigit := goodIn_r _ [4] (by decide +kernel) (by decide +kernel)
set_option maxRecDepth 20000 in
theorem gX1_kindAt_X1_isDigit : GoodIn wsX1_kindAt (va_wsS RX1 70 yX1_isDigit wsX1_isDigit) := goodIn_app (goodIn_of _ (by decide +kernel)) ggX1_kindAt_X1_isDigit
set_option maxRecDepth 20000 in
theorem ggX1_takeInWord_X1_stateBehindValue : GoodIn wsX1_takeInWord wsX1_stateBehindValue := goodIn_r _ [7, 8, 9, 10, 11, 12, 13, 14, 15, 16, 17, 18, 19, 20, 21, 22, 23, 24, 25, 26] (by decide +kernel) (by decide +kernel)
set_option maxRecDepth 20000 in
theorem gX1_takeInWord_X1_stateBehindValue : GoodIn wsX1_takeInWord (wsV RX1 47 RX1 yX1_stateBehindValue wsX1_stateBehindValue) := goodIn_app (goodIn_of _ (by decide +kernel)) ggX1_takeInWord_X1_stateBehindValue
set_option maxRecDepth 20000 in
theorem ggX1_takeInNumber_X1_takePoint : GoodIn wsX1_takeInNumber wsX1_takePoint := goodIn_r _ [7, 1, 8, 9, 2, 10, 11, 12, 13, 14, 15, 16, 20, 21, 22, 23, 24, 25, 26, 27, 28, 29] (by decide +kernel) (by decide +kernel)
set_option maxRecDepth 20000 in
theorem gX1_takeInNumber_X1_takePoint : GoodIn wsX1_takeInNumber (wsV RX1 94 RX1 yX1_takePoint wsX1_takePoint) := goodIn_app (goodIn_of _ (by decide +kernel)) ggX1_takeInNumber_X1_takePoint
set_option maxRecDepth 20000 in
theorem ggX1_takeInNumber_X1_isDigit : GoodIn wsX1_takeInNumber wsX1_isDigit := goodIn_r _ [19] (by decide +kernel) (by decide +kernel)
set_option maxRecDepth 20000 in
theorem gX1_takeInNumber_X1_isDigit : GoodIn wsX1_takeInNumber (va_wsS RX1 70 yX1_isDigit wsX1_isDigit) := goodIn_app (goodIn_of _ (by decide +kernel)) ggX1_takeInNumber_X1_isDigit
set_option maxRecDepth 20000 in
theorem ggX1_takePoint_X3_put : GoodIn wsX1_takePoint wsX3_put := goodIn_r _ [9, 10, 11, 19, 20, 21] (by decide +kernel) (by decide +kernel)
set_option maxRecDepth 20000 in
theorem gX1_takePoint_X3_put : GoodIn wsX1_takePoint (wsV RX1 77 RX3 yX3_put wsX3_put) := goodIn_app (goodIn_of _ (by decide +kernel)) ggX1_takePoint_X3_put
set_option maxRecDepth 20000 in
theorem ggX1_stateBehindValue_X3_get : GoodIn wsX1_stateBehindValue wsX3_get := goodIn_r _ [7, 8, 9, 17, 18, 19] (by decide +kernel) (by decide +kernel)
set_option maxRecDepth 20000 in
theorem gX1_stateBehindValue_X3_get : GoodIn wsX1_stateBehindValue (wsV RX1 73 RX3 yX3_get wsX3_get) := goodIn_app (goodIn_of _ (by decide +kernel)) ggX1_stateBehindValue_X3_get
set_option maxRecDepth 20000 in
theorem ggX1_closeValue_X3_put : GoodIn wsX1_closeValue wsX3_put := goodIn_r _ [9, 10, 11, 28, 29, 30] (by decide +kernel) (by decide +kernel)
set_option maxRecDepth 20000 in
theorem gX1_closeValue_X3_put : GoodIn wsX1_closeValue (wsV RX1 77 RX3 yX3_put wsX3_put) := goodIn_app (goodIn_of _ (by decide +kernel)) ggX1_closeValue_X3_put
set_option maxRecDepth 20000 in
theorem ggX1_closeValue_X3_get : GoodIn wsX1_closeValue wsX3_get := goodIn_r _ [15, 10, 11, 28, 29, 30] (by decide +kernel) (by decide +kernel)
set_option maxRecDepth 20000 in
theorem gX1_closeValue_X3_get : GoodIn wsX1_closeValue (wsV RX1 73 RX3 yX3_get wsX3_get) := goodIn_app (goodIn_of _ (by decide +kernel)) ggX1_closeValue_X3_get
set_option maxRecDepth 20000 in
theorem ggX1_closeValue_X1_stateBehindValue : GoodIn wsX1_closeValue wsX1_stateBehindValue := goodIn_r _ [20, 2, 1, 12, 13, 14, 8, 15, 10, 11, 21, 22, 23, 24, 25, 26, 27, 28, 29, 30] (by decide +kernel) (by decide +kernel)
set_option maxRecDepth 20000 in
theorem gX1_closeValue_X1_stateBehindValue : GoodIn wsX1_closeValue (wsV RX1 47 RX1 yX1_stateBehindValue wsX1_stateBehindValue) := goodIn_app (goodIn_of _ (by decide +kernel)) ggX1_closeValue_X1_stateBehindValue
set_option maxRecDepth 20000 in
theorem ggX1_depthOfNext_X3_get : GoodIn wsX1_depthOfNext wsX3_get := goodIn_r _ [7, 8, 9, 17, 18, 19] (by decide +kernel) (by decide +kernel)
set_option maxRecDepth 20000 in
theorem gX1_depthOfNext_X3_get : GoodIn wsX1_depthOfNext (wsV RX1 73 RX3 yX3_get wsX3_get) := goodIn_app (goodIn_of _ (by decide +kernel)) ggX1_depthOfNext_X3_get
set_option maxRecDepth 20000 in
theorem ggX2_init_X3_init : GoodIn wsX2_init wsX3_init := goodIn_r _ [10, 11, 2, 3, 12, 13, 14, 15, 16] (by decide +kernel) (by decide +kernel)
set_option maxRecDepth 20000 in
theorem gX2_init_X3_init_n9 : GoodIn wsX2_init (wsX3_init) := ggX2_init_X3_init
set_option maxRecDepth 20000 in
theorem ggX2_copyFrom_X3_copyFrom : GoodIn wsX2_copyFrom wsX3_copyFrom := goodIn_r _ [8, 9, 10, 11, 12, 13, 7, 14, 15, 16, 17, 18, 22, 23, 24] (by decide +kernel) (by decide +kernel)
set_option maxRecDepth 20000 in
theorem gX2_copyFrom_X3_copyFrom : GoodIn wsX2_copyFrom (wsV RX2 19 RX3 yX3_copyFrom wsX3_copyFrom) := goodIn_app (goodIn_of _ (by decide +kernel)) ggX2_copyFrom_X3_copyFrom
set_option maxRecDepth 20000 in
theorem ggX3_copyFrom_X3_moveCells : GoodIn wsX3_copyFrom wsX3_moveCells := goodIn_r _ [7, 8, 9, 10, 11] (by decide +kernel) (by decide +kernel)
set_option maxRecDepth 20000 in
theorem gX3_copyFrom_X3_moveCells : GoodIn wsX3_copyFrom (va_wsS RX3 22 yX3_moveCells wsX3_moveCells) := goodIn_app (goodIn_of _ (by decide +kernel)) ggX3_copyFrom_X3_moveCells
set_option maxRecDepth 20000 in
theorem ggX3_behind_X3_get : GoodIn wsX3_behind wsX3_get := goodIn_r _ [6, 1, 7, 8, 9, 10] (by decide +kernel) (by decide +kernel)
set_option maxRecDepth 20000 in
theorem gX3_behind_X3_get : GoodIn wsX3_behind (wsV RX3 32 RX3 yX3_get wsX3_get) := goodIn_app (goodIn_of _ (by decide +kernel)) ggX3_behind_X3_get
set_option maxRecDepth 20000 in
theorem ggX3_above_X3_get : GoodIn wsX3_above wsX3_get := goodIn_r _ [5, 6, 7, 8, 9, 10] (by decide +kernel) (by decide +kernel)
set_option maxRecDepth 20000 in
theorem gX3_above_X3_get : GoodIn wsX3_above (wsV RX3 32 RX3 yX3_get wsX3_get) := goodIn_app (goodIn_of _ (by decide +kernel)) ggX3_above_X3_get
set_option maxRecDepth 20000 in
theorem ggX3_countBelow_X3_get : GoodIn wsX3_countBelow wsX3_get := goodIn_r _ [5, 6, 7, 12, 13, 14] (by decide +kernel) (by decide +kernel)
set_option maxRecDepth 20000 in
theorem gX3_countBelow_X3_get : GoodIn wsX3_countBelow (wsV RX3 32 RX3 yX3_get wsX3_get) := goodIn_app (goodIn_of _ (by decide +kernel)) ggX3_countBelow_X3_get
set_option maxRecDepth 20000 in
theorem ggX3_countBelow_X3_behind : GoodIn wsX3_countBelow wsX3_behind := goodIn_r _ [11, 6, 1, 2, 3, 4, 5, 7, 12, 13, 14] (by decide +kernel) (by decide +kernel)
set_option maxRecDepth 20000 in
theorem gX3_countBelow_X3_behind : GoodIn wsX3_countBelow (wsV RX3 36 RX3 yX3_behind wsX3_behind) := goodIn_app (goodIn_of _ (by decide +kernel)) ggX3_countBelow_X3_behind
set_option maxRecDepth 20000 in
theorem ggX3_findBelow_X3_has : GoodIn wsX3_findBelow wsX3_has := goodIn_r _ [6, 1, 12, 13, 14] (by decide +kernel) (by decide +kernel)
set_option maxRecDepth 20000 in
theorem gX3_findBelow_X3_has : GoodIn wsX3_findBelow (wsV RX3 40 RX3 yX3_has wsX3_has) := goodIn_app (goodIn_of _ (by decide +kernel)) ggX3_findBelow_X3_has
set_option maxRecDepth 20000 in
theorem ggX3_findBelow_X3_get : GoodIn wsX3_findBelow wsX3_get := goodIn_r _ [10, 1, 11, 12, 13, 14] (by decide +kernel) (by decide +kernel)
set_option maxRecDepth 20000 in
theorem gX3_findBelow_X3_get : GoodIn wsX3_findBelow (wsV RX3 32 RX3 yX3_get wsX3_get) := goodIn_app (goodIn_of _ (by decide +kernel)) ggX3_findBelow_X3_get
set_option maxRecDepth 20000 in
theorem ggX3_insertBelow_X3_has : GoodIn wsX3_insertBelow wsX3_has := goodIn_r _ [7, 1, 27, 28, 29] (by decide +kernel) (by decide +kernel)
set_option maxRecDepth 20000 in
theorem gX3_insertBelow_X3_has : GoodIn wsX3_insertBelow (wsV RX3 40 RX3 yX3_has wsX3_has) := goodIn_app (goodIn_of _ (by decide +kernel)) ggX3_insertBelow_X3_has
set_option maxRecDepth 20000 in
theorem ggX3_insertBelow_X3_get : GoodIn wsX3_insertBelow wsX3_get := goodIn_r _ [11, 1, 2, 27, 28, 29] (by decide +kernel) (by decide +kernel)
set_option maxRecDepth 20000 in
theorem gX3_insertBelow_X3_get : GoodIn wsX3_insertBelow (wsV RX3 32 RX3 yX3_get wsX3_get) := goodIn_app (goodIn_of _ (by decide +kernel)) ggX3_insertBelow_X3_get
set_option maxRecDepth 20000 in
theorem ggX3_insertBelow_X3_moveCells : GoodIn wsX3_insertBelow wsX3_moveCells := goodIn_r _ [14, 15, 16, 17, 18] (by decide +kernel) (by decide +kernel)
set_option maxRecDepth 20000 in
theorem gX3_insertBelow_X3_moveCells : GoodIn wsX3_insertBelow (va_wsS RX3 22 yX3_moveCells wsX3_moveCells) := goodIn_app (goodIn_of _ (by decide +kernel)) ggX3_insertBelow_X3_moveCells
set_option maxRecDepth 20000 in
theorem ggX3_insertBelow_X3_startRow : GoodIn wsX3_insertBelow wsX3_startRow := goodIn_r _ [22, 23, 24, 25, 6, 26, 1, 2, 27, 28, 29] (by decide +kernel) (by decide +kernel)
set_option maxRecDepth 20000 in
theorem gX3_insertBelow_X3_startRow : GoodIn wsX3_insertBelow (wsV RX3 44 RX3 yX3_startRow wsX3_startRow) := goodIn_app (goodIn_of _ (by decide +kernel)) ggX3_insertBelow_X3_startRow
set_option maxRecDepth 20000 in
theorem ggX3_addRow_X3_startRow : GoodIn wsX3_addRow wsX3_startRow := goodIn_r _ [6, 7, 8, 9, 5, 10, 1, 11, 12, 13, 14] (by decide +kernel) (by decide +kernel)
set_option maxRecDepth 20000 in
theorem gX3_addRow_X3_startRow : GoodIn wsX3_addRow (wsV RX3 44 RX3 yX3_startRow wsX3_startRow) := goodIn_app (goodIn_of _ (by decide +kernel)) ggX3_addRow_X3_startRow
set_option maxRecDepth 20000 in
theorem ggX3_startRow_X3_put : GoodIn wsX3_startRow wsX3_put := goodIn_r _ [5, 6, 7, 8, 9, 10] (by decide +kernel) (by decide +kernel)
set_option maxRecDepth 20000 in
theorem gX3_startRow_X3_put : GoodIn wsX3_startRow (wsV RX3 48 RX3 yX3_put wsX3_put) := goodIn_app (goodIn_of _ (by decide +kernel)) ggX3_startRow_X3_put
set_option maxRecDepth 20000 in
theorem ggX3_dropBelow_X3_behind : GoodIn wsX3_dropBelow wsX3_behind := goodIn_r _ [7, 2, 8, 9, 10, 6, 11, 1, 19, 20, 21] (by decide +kernel) (by decide +kernel)
set_option maxRecDepth 20000 in
theorem gX3_dropBelow_X3_behind : GoodIn wsX3_dropBelow (wsV RX3 36 RX3 yX3_behind wsX3_behind) := goodIn_app (goodIn_of _ (by decide +kernel)) ggX3_dropBelow_X3_behind
set_option maxRecDepth 20000 in
theorem ggX3_dropBelow_X3_moveCells : GoodIn wsX3_dropBelow wsX3_moveCells := goodIn_r _ [14, 15, 16, 17, 18] (by decide +kernel) (by decide +kernel)
set_option maxRecDepth 20000 in
theorem gX3_dropBelow_X3_moveCells : GoodIn wsX3_dropBelow (va_wsS RX3 22 yX3_moveCells wsX3_moveCells) := goodIn_app (goodIn_of _ (by decide +kernel)) ggX3_dropBelow_X3_moveCells
set_option maxRecDepth 20000 in
theorem ggX3_markOptional_X3_get : GoodIn wsX3_markOptional wsX3_get := goodIn_r _ [6, 1, 7, 16, 17, 18] (by decide +kernel) (by decide +kernel)
set_option maxRecDepth 20000 in
theorem gX3_markOptional_X3_get : GoodIn wsX3_markOptional (wsV RX3 32 RX3 yX3_get wsX3_get) := goodIn_app (goodIn_of _ (by decide +kernel)) ggX3_markOptional_X3_get
set_option maxRecDepth 20000 in
theorem ggX3_markOptional_X3_above : GoodIn wsX3_markOptional wsX3_above := goodIn_r _ [11, 2, 3, 4, 5, 6, 1, 7, 16, 17, 18] (by decide +kernel) (by decide +kernel)
set_option maxRecDepth 20000 in
theorem gX3_markOptional_X3_above : GoodIn wsX3_markOptional (wsV RX3 51 RX3 yX3_above wsX3_above) := goodIn_app (goodIn_of _ (by decide +kernel)) ggX3_markOptional_X3_above
set_option maxRecDepth 20000 in
theorem ggX3_markOptional_X3_put : GoodIn wsX3_markOptional wsX3_put := goodIn_r _ [15, 1, 7, 16, 17, 18] (by decide +kernel) (by decide +kernel)
set_option maxRecDepth 20000 in
theorem gX3_markOptional_X3_put : GoodIn wsX3_markOptional (wsV RX3 48 RX3 yX3_put wsX3_put) := goodIn_app (goodIn_of _ (by decide +kernel)) ggX3_markOptional_X3_put
set_option maxRecDepth 20000 in
theorem ggX4_init_X1_init : GoodIn wsX4_init wsX1_init := goodIn_r _ [24, 25, 2, 3, 26, 16, 17, 27, 28, 29, 30, 4, 31, 59, 60, 61, 49, 50, 51, 52, 53, 54, 55] (by decide +kernel) (by decide +kernel)
set_option maxRecDepth 20000 in
theorem gX4_init_X1_init_n15 : GoodIn wsX4_init (wsX1_init) := ggX4_init_X1_init
set_option maxRecDepth 20000 in
theorem ggX4_init_X2_init : GoodIn wsX4_init wsX2_init := goodIn_r _ [33, 34, 2, 3, 35, 16, 17, 36, 37, 28, 29, 30, 4, 31, 59, 60, 61, 56, 57, 58] (by decide +kernel) (by decide +kernel)
set_option maxRecDepth 20000 in
theorem gX4_init_X2_init_n22 : GoodIn wsX4_init (wsX2_init) := ggX4_init_X2_init
set_option maxRecDepth 20000 in
theorem ggX4_init_X3_init : GoodIn wsX4_init wsX3_init := goodIn_r _ [29, 30, 2, 3, 4, 31, 59, 60, 61] (by decide +kernel) (by decide +kernel)
set_option maxRecDepth 20000 in
theorem gX4_init_X3_init_n33 : GoodIn wsX4_init (wsX3_init) := ggX4_init_X3_init
set_option maxRecDepth 20000 in
theorem ggX4_init_X0_init : GoodIn wsX4_init wsX0_init := goodIn_r _ [39, 40, 2, 3] (by decide +kernel) (by decide +kernel)
set_option maxRecDepth 20000 in
theorem gX4_init_X0_init_n40 : GoodIn wsX4_init (wsX0_init) := ggX4_init_X0_init
set_option maxRecDepth 20000 in
theorem ggX4_learn_X4_isShape : GoodIn wsX4_learn wsX4_isShape := goodIn_r _ [15] (by decide +kernel) (by decide +kernel)
set_option maxRecDepth 20000 in
theorem gX4_learn_X4_isShape : GoodIn wsX4_learn (va_wsS RX4 45 yX4_isShape wsX4_isShape) := goodIn_app (goodIn_of _ (by decide +kernel)) ggX4_learn_X4_isShape
set_option maxRecDepth 20000 in
theorem ggX4_learn_X1_read : GoodIn wsX4_learn wsX1_read := goodIn_r _ [20, 21, 22, 23, 24, 25, 26, 27, 28, 29, 30, 31, 32, 33, 34, 35, 36, 37, 19, 38, 39, 40, 41, 42, 43, 44, 45, 46, 47, 48, 49, 50, 51, 52, 53, 54, 55, 56, 57, 58, 59, 60, 61, 62, 63, 64, 65, 66, 67, 68, 69, 70, 71, 72, 73, 74, 75, 76, 77, 78, 79, 80, 81, 82, 83, 84, 85, 86, 87, 88, 89, 90, 91, 92, 93, 94, 95, 96, 97, 98, 99, 100, 101, 102, 103, 104, 105, 106, 107, 214, 215, 216, 217, 218, 219, 220, 211, 212, 213] (by decide +kernel) (by decide +kernel)
set_option maxRecDepth 20000 in
theorem gX4_learn_X1_read : GoodIn wsX4_learn (wsV RX4 60 RX1 yX1_read wsX1_read) := goodIn_app (goodIn_of _ (by decide +kernel)) ggX4_learn_X1_read
set_option maxRecDepth 20000 in
theorem ggX4_learn_X2_tree : GoodIn wsX4_learn wsX2_tree := goodIn_r _ [112, 113, 114, 221, 222, 223] (by decide +kernel) (by decide +kernel)
set_option maxRecDepth 20000 in
theorem gX4_learn_X2_tree : GoodIn wsX4_learn (wsV RX4 69 RX2 yX2_tree wsX2_tree) := goodIn_app (goodIn_of _ (by decide +kernel)) ggX4_learn_X2_tree
set_option maxRecDepth 20000 in
theorem ggX4_learn_X4_workOutLearned : GoodIn wsX4_learn wsX4_workOutLearned := goodIn_r _ [118, 7, 119, 120, 11, 121, 122, 123, 31, 124, 54, 33, 34, 125, 126, 127, 128, 129, 130, 131, 132, 75, 76, 77, 133, 134, 135, 14, 136, 137, 51, 52, 53, 138, 139, 140, 141, 142, 143, 144, 145, 146, 147, 148, 149, 150, 70, 71, 72, 73, 74, 151, 152, 153, 154, 155, 156, 157, 158, 159, 160, 161, 203, 204, 205, 206, 207, 208, 209, 210, 214, 215, 216, 217, 218, 219, 220, 211, 212, 213] (by decide +kernel) (by decide +kernel)
set_option maxRecDepth 20000 in
theorem gX4_learn_X4_workOutLearned : GoodIn wsX4_learn (wsV RX4 73 RX4 yX4_workOutLearned wsX4_workOutLearned) := goodIn_app (goodIn_of _ (by decide +kernel)) ggX4_learn_X4_workOutLearned
set_option maxRecDepth 20000 in
theorem ggX4_learn_X4_isRefused : GoodIn wsX4_learn wsX4_isRefused := goodIn_r _ [165, 119, 11, 10, 166, 167, 168, 169, 14, 170, 137, 51, 52, 31, 53, 33, 54, 203, 204, 205, 206, 207, 208, 209, 210, 211, 212, 213, 221, 222, 223] (by decide +kernel) (by decide +kernel)
set_option maxRecDepth 20000 in
theorem gX4_learn_X4_isRefused : GoodIn wsX4_learn (wsV RX4 77 RX4 yX4_isRefused wsX4_isRefused) := goodIn_app (goodIn_of _ (by decide +kernel)) ggX4_learn_X4_isRefused
set_option maxRecDepth 20000 in
theorem ggX4_learn_X4_saveState : GoodIn wsX4_learn wsX4_saveState := goodIn_r _ [174, 175, 176, 10, 177, 178, 179, 14, 180, 181, 182, 183, 184, 185, 186, 187, 111, 188, 113, 114, 189, 190, 122, 123, 31, 124, 54, 33, 34, 125, 126, 127, 128, 129, 130, 131, 203, 204, 205, 206, 207, 208, 209, 210, 221, 222, 223, 211, 212, 213] (by decide +kernel) (by decide +kernel)
set_option maxRecDepth 20000 in
theorem gX4_learn_X4_saveState : GoodIn wsX4_learn (wsV RX4 86 RX4 yX4_saveState wsX4_saveState) := goodIn_app (goodIn_of _ (by decide +kernel)) ggX4_learn_X4_saveState
set_option maxRecDepth 20000 in
theorem ggX4_learn_X4_takeWork : GoodIn wsX4_learn wsX4_takeWork := goodIn_r _ [194, 119, 195, 196, 197, 31, 198, 33, 146, 51, 52, 53, 54, 199, 200, 201, 202, 74, 75, 76, 77, 121, 122, 123, 124, 34, 125, 126, 127, 128, 129, 130, 131, 203, 204, 205, 206, 207, 208, 209, 210, 211, 212, 213] (by decide +kernel) (by decide +kernel)
set_option maxRecDepth 20000 in
theorem gX4_learn_X4_takeWork : GoodIn wsX4_learn (wsV RX4 89 RX4 yX4_takeWork wsX4_takeWork) := goodIn_app (goodIn_of _ (by decide +kernel)) ggX4_learn_X4_takeWork
set_option maxRecDepth 20000 in
theorem ggX4_join_X4_isShape : GoodIn wsX4_join wsX4_isShape := goodIn_r _ [11] (by decide +kernel) (by decide +kernel)
set_option maxRecDepth 20000 in
theorem gX4_join_X4_isShape : GoodIn wsX4_join (va_wsS RX4 45 yX4_isShape wsX4_isShape) := goodIn_app (goodIn_of _ (by decide +kernel)) ggX4_join_X4_isShape
set_option maxRecDepth 20000 in
theorem ggX4_join_X2_tree : GoodIn wsX4_join wsX2_tree := goodIn_r _ [16, 17, 18, 122, 123, 124] (by decide +kernel) (by decide +kernel)
set_option maxRecDepth 20000 in
theorem gX4_join_X2_tree : GoodIn wsX4_join (wsV RX4 69 RX2 yX2_tree wsX2_tree) := goodIn_app (goodIn_of _ (by decide +kernel)) ggX4_join_X2_tree
set_option maxRecDepth 20000 in
theorem ggX4_join_X4_workOutJoined : GoodIn wsX4_join wsX4_workOutJoined := goodIn_r _ [22, 6, 23, 7, 24, 25, 26, 27, 28, 29, 30, 31, 32, 10, 33, 34, 35, 36, 37, 38, 39, 40, 41, 42, 43, 44, 45, 46, 47, 48, 49, 50, 51, 52, 53, 54, 55, 56, 57, 58, 59, 60, 61, 62, 63, 64, 65, 66, 67, 111, 112, 113, 114, 115, 116, 117, 118, 119, 120, 121] (by decide +kernel) (by decide +kernel)
set_option maxRecDepth 20000 in
theorem gX4_join_X4_workOutJoined : GoodIn wsX4_join (wsV RX4 95 RX4 yX4_workOutJoined wsX4_workOutJoined) := goodIn_app (goodIn_of _ (by decide +kernel)) ggX4_join_X4_workOutJoined
set_option maxRecDepth 20000 in
theorem ggX4_join_X4_saveState : GoodIn wsX4_join wsX4_saveState := goodIn_r _ [71, 72, 73, 5, 74, 75, 76, 10, 77, 78, 79, 80, 81, 82, 83, 84, 15, 85, 17, 18, 86, 87, 88, 89, 27, 90, 42, 29, 30, 91, 92, 93, 94, 95, 96, 97, 111, 112, 113, 114, 115, 116, 117, 118, 122, 123, 124, 119, 120, 121] (by decide +kernel) (by decide +kernel)
set_option maxRecDepth 20000 in
theorem gX4_join_X4_saveState : GoodIn wsX4_join (wsV RX4 86 RX4 yX4_saveState wsX4_saveState) := goodIn_app (goodIn_of _ (by decide +kernel)) ggX4_join_X4_saveState
set_option maxRecDepth 20000 in
theorem ggX4_join_X4_takeWork : GoodIn wsX4_join wsX4_takeWork := goodIn_r _ [101, 6, 102, 103, 104, 27, 105, 29, 67, 39, 40, 41, 42, 106, 107, 108, 109, 54, 55, 56, 57, 110, 88, 89, 90, 30, 91, 92, 93, 94, 95, 96, 97, 111, 112, 113, 114, 115, 116, 117, 118, 119, 120, 121] (by decide +kernel) (by decide +kernel)
set_option maxRecDepth 20000 in
theorem gX4_join_X4_takeWork : GoodIn wsX4_join (wsV RX4 89 RX4 yX4_takeWork wsX4_takeWork) := goodIn_app (goodIn_of _ (by decide +kernel)) ggX4_join_X4_takeWork
set_option maxRecDepth 20000 in
theorem ggX4_forget_X4_isShape : GoodIn wsX4_forget wsX4_isShape := goodIn_r _ [8] (by decide +kernel) (by decide +kernel)
set_option maxRecDepth 20000 in
theorem gX4_forget_X4_isShape : GoodIn wsX4_forget (va_wsS RX4 45 yX4_isShape wsX4_isShape) := goodIn_app (goodIn_of _ (by decide +kernel)) ggX4_forget_X4_isShape
set_option maxRecDepth 20000 in
theorem ggX4_forget_X4_saveState : GoodIn wsX4_forget wsX4_saveState := goodIn_r _ [12, 13, 14, 3, 15, 16, 17, 7, 18, 19, 20, 21, 22, 23, 24, 25, 26, 27, 28, 29, 30, 31, 32, 33, 34, 35, 36, 37, 38, 39, 40, 41, 42, 43, 44, 45, 54, 55, 56, 57, 58, 59, 60, 61, 65, 66, 67, 62, 63, 64] (by decide +kernel) (by decide +kernel)
set_option maxRecDepth 20000 in
theorem gX4_forget_X4_saveState : GoodIn wsX4_forget (wsV RX4 86 RX4 yX4_saveState wsX4_saveState) := goodIn_app (goodIn_of _ (by decide +kernel)) ggX4_forget_X4_saveState
set_option maxRecDepth 20000 in
theorem ggX4_forget_X2_tree : GoodIn wsX4_forget wsX2_tree := goodIn_r _ [49, 28, 29, 65, 66, 67] (by decide +kernel) (by decide +kernel)
set_option maxRecDepth 20000 in
theorem gX4_forget_X2_tree : GoodIn wsX4_forget (wsV RX4 69 RX2 yX2_tree wsX2_tree) := goodIn_app (goodIn_of _ (by decide +kernel)) ggX4_forget_X2_tree
set_option maxRecDepth 20000 in
theorem ggX4_forget_X3_clear : GoodIn wsX4_forget wsX3_clear := goodIn_r _ [53, 37, 38, 62, 63, 64] (by decide +kernel) (by decide +kernel)
set_option maxRecDepth 20000 in
theorem gX4_forget_X3_clear : GoodIn wsX4_forget (wsV RX4 101 RX3 yX3_clear wsX3_clear) := goodIn_app (goodIn_of _ (by decide +kernel)) ggX4_forget_X3_clear
set_option maxRecDepth 20000 in
theorem ggX4_swap_X4_saveState : GoodIn wsX4_swap wsX4_saveState := goodIn_r _ [10, 11, 12, 2, 13, 14, 15, 9, 16, 17, 18, 19, 20, 21, 22, 23, 24, 25, 26, 27, 28, 29, 30, 31, 32, 33, 34, 35, 36, 37, 38, 39, 40, 41, 42, 43, 45, 46, 47, 48, 49, 50, 51, 52, 53, 54, 55, 56, 57, 58] (by decide +kernel) (by decide +kernel)
set_option maxRecDepth 20000 in
theorem gX4_swap_X4_saveState : GoodIn wsX4_swap (wsV RX4 86 RX4 yX4_saveState wsX4_saveState) := goodIn_app (goodIn_of _ (by decide +kernel)) ggX4_swap_X4_saveState
set_option maxRecDepth 20000 in
theorem ggX4_swap_X3_copyFrom : GoodIn wsX4_swap wsX3_copyFrom := goodIn_r _ [33, 34, 35, 36, 37, 38, 32, 39, 40, 41, 42, 43, 56, 57, 58] (by decide +kernel) (by decide +kernel)
set_option maxRecDepth 20000 in
theorem gX4_swap_X3_copyFrom : GoodIn wsX4_swap (wsV RX4 107 RX3 yX3_copyFrom wsX3_copyFrom) := goodIn_app (goodIn_of _ (by decide +kernel)) ggX4_swap_X3_copyFrom
set_option maxRecDepth 20000 in
theorem ggX4_set_X4_saveState : GoodIn wsX4_set wsX4_saveState := goodIn_r _ [9, 10, 11, 3, 12, 13, 14, 8, 15, 16, 17, 18, 19, 20, 21, 22, 23, 24, 25, 26, 27, 28, 29, 30, 31, 32, 33, 34, 35, 36, 37, 38, 39, 40, 41, 42, 43, 44, 45, 46, 47, 48, 49, 50, 51, 52, 53, 54, 55, 56] (by decide +kernel) (by decide +kernel)
set_option maxRecDepth 20000 in
theorem gX4_set_X4_saveState : GoodIn wsX4_set (wsV RX4 86 RX4 yX4_saveState wsX4_saveState) := goodIn_app (goodIn_of _ (by decide +kernel)) ggX4_set_X4_saveState
set_option maxRecDepth 20000 in
theorem ggX4_undo_X4_savedAt : GoodIn wsX4_undo wsX4_savedAt := goodIn_r _ [9, 10, 34, 35, 36, 37, 38, 39, 40, 41] (by decide +kernel) (by decide +kernel)
set_option maxRecDepth 20000 in
theorem gX4_undo_X4_savedAt : GoodIn wsX4_undo (wsV RX4 128 RX4 yX4_savedAt wsX4_savedAt) := goodIn_app (goodIn_of _ (by decide +kernel)) ggX4_undo_X4_savedAt
set_option maxRecDepth 20000 in
theorem ggX4_undo_X2_copyFrom : GoodIn wsX4_undo wsX2_copyFrom := goodIn_r _ [15, 16, 17, 18, 19, 20, 21, 22, 23, 24, 25, 26, 27, 28, 29, 30, 31, 32, 33, 42, 43, 44, 45, 46, 47] (by decide +kernel) (by decide +kernel)
set_option maxRecDepth 20000 in
theorem gX4_undo_X2_copyFrom : GoodIn wsX4_undo (wsV RX4 134 RX2 yX2_copyFrom wsX2_copyFrom) := goodIn_app (goodIn_of _ (by decide +kernel)) ggX4_undo_X2_copyFrom
set_option maxRecDepth 20000 in
theorem ggX4_node_X4_isShape : GoodIn wsX4_node wsX4_isShape := goodIn_r _ [9] (by decide +kernel) (by decide +kernel)
set_option maxRecDepth 20000 in
theorem gX4_node_X4_isShape : GoodIn wsX4_node (va_wsS RX4 45 yX4_isShape wsX4_isShape) := goodIn_app (goodIn_of _ (by decide +kernel)) ggX4_node_X4_isShape
set_option maxRecDepth 20000 in
theorem ggX4_node_X2_tree : GoodIn wsX4_node wsX2_tree := goodIn_r _ [14, 15, 16, 52, 53, 54] (by decide +kernel) (by decide +kernel)
set_option maxRecDepth 20000 in
theorem gX4_node_X2_tree : GoodIn wsX4_node (wsV RX4 69 RX2 yX2_tree wsX2_tree) := goodIn_app (goodIn_of _ (by decide +kernel)) ggX4_node_X2_tree
set_option maxRecDepth 20000 in
theorem ggX4_node_X3_has : GoodIn wsX4_node wsX3_has := goodIn_r _ [21, 22, 55, 56, 57] (by decide +kernel) (by decide +kernel)
set_option maxRecDepth 20000 in
theorem gX4_node_X3_has : GoodIn wsX4_node (wsV RX4 137 RX3 yX3_has wsX3_has) := goodIn_app (goodIn_of _ (by decide +kernel)) ggX4_node_X3_has
set_option maxRecDepth 20000 in
theorem ggX4_node_X4_nodeNumber : GoodIn wsX4_node wsX4_nodeNumber := goodIn_r _ [25, 26, 27, 28, 20, 29, 22, 30, 31, 32, 33, 34, 35, 36, 37, 38, 39, 40, 41, 42, 43, 55, 56, 57] (by decide +kernel) (by decide +kernel)
set_option maxRecDepth 20000 in
theorem gX4_node_X4_nodeNumber : GoodIn wsX4_node (va_wsS RX4 144 yX4_nodeNumber wsX4_nodeNumber) := goodIn_app (goodIn_of _ (by decide +kernel)) ggX4_node_X4_nodeNumber
set_option maxRecDepth 20000 in
theorem ggX4_child_X4_isShape : GoodIn wsX4_child wsX4_isShape := goodIn_r _ [9] (by decide +kernel) (by decide +kernel)
set_option maxRecDepth 20000 in
theorem gX4_child_X4_isShape : GoodIn wsX4_child (va_wsS RX4 45 yX4_isShape wsX4_isShape) := goodIn_app (goodIn_of _ (by decide +kernel)) ggX4_child_X4_isShape
set_option maxRecDepth 20000 in
theorem ggX4_child_X2_tree : GoodIn wsX4_child wsX2_tree := goodIn_r _ [14, 15, 16, 41, 42, 43] (by decide +kernel) (by decide +kernel)
set_option maxRecDepth 20000 in
theorem gX4_child_X2_tree : GoodIn wsX4_child (wsV RX4 69 RX2 yX2_tree wsX2_tree) := goodIn_app (goodIn_of _ (by decide +kernel)) ggX4_child_X2_tree
set_option maxRecDepth 20000 in
theorem ggX4_child_X3_has : GoodIn wsX4_child wsX3_has := goodIn_r _ [21, 22, 44, 45, 46] (by decide +kernel) (by decide +kernel)
set_option maxRecDepth 20000 in
theorem gX4_child_X3_has : GoodIn wsX4_child (wsV RX4 137 RX3 yX3_has wsX3_has) := goodIn_app (goodIn_of _ (by decide +kernel)) ggX4_child_X3_has
set_option maxRecDepth 20000 in
theorem ggX4_child_X3_findBelow : GoodIn wsX4_child wsX3_findBelow := goodIn_r _ [26, 22, 27, 18, 19, 20, 21, 28, 29, 30, 31, 32, 44, 45, 46] (by decide +kernel) (by decide +kernel)
set_option maxRecDepth 20000 in
theorem gX4_child_X3_findBelow : GoodIn wsX4_child (wsV RX4 150 RX3 yX3_findBelow wsX3_findBelow) := goodIn_app (goodIn_of _ (by decide +kernel)) ggX4_child_X3_findBelow
set_option maxRecDepth 20000 in
theorem ggX4_shape_X4_isShape : GoodIn wsX4_shape wsX4_isShape := goodIn_r _ [9] (by decide +kernel) (by decide +kernel)
set_option maxRecDepth 20000 in
theorem gX4_shape_X4_isShape : GoodIn wsX4_shape (va_wsS RX4 45 yX4_isShape wsX4_isShape) := goodIn_app (goodIn_of _ (by decide +kernel)) ggX4_shape_X4_isShape
set_option maxRecDepth 20000 in
theorem ggX4_shape_X2_tree : GoodIn wsX4_shape wsX2_tree := goodIn_r _ [14, 15, 16, 41, 42, 43] (by decide +kernel) (by decide +kernel)
set_option maxRecDepth 20000 in
theorem gX4_shape_X2_tree : GoodIn wsX4_shape (wsV RX4 69 RX2 yX2_tree wsX2_tree) := goodIn_app (goodIn_of _ (by decide +kernel)) ggX4_shape_X2_tree
set_option maxRecDepth 20000 in
theorem ggX4_shape_X4_shapeNumber : GoodIn wsX4_shape wsX4_shapeNumber := goodIn_r _ [19, 20, 21, 22, 23, 24, 25, 26, 27, 28, 29, 30, 31, 32, 44, 45, 46] (by decide +kernel) (by decide +kernel)
set_option maxRecDepth 20000 in
theorem gX4_shape_X4_shapeNumber : GoodIn wsX4_shape (va_wsS RX4 156 yX4_shapeNumber wsX4_shapeNumber) := goodIn_app (goodIn_of _ (by decide +kernel)) ggX4_shape_X4_shapeNumber
set_option maxRecDepth 20000 in
theorem ggX4_count_X4_stateNumber : GoodIn wsX4_count wsX4_stateNumber := goodIn_r _ [7, 8, 9, 10, 11, 12, 13, 14, 15, 16, 17, 18, 19, 20, 21, 22] (by decide +kernel) (by decide +kernel)
set_option maxRecDepth 20000 in
theorem gX4_count_X4_stateNumber : GoodIn wsX4_count (wsV RX4 168 RX4 yX4_stateNumber wsX4_stateNumber) := goodIn_app (goodIn_of _ (by decide +kernel)) ggX4_count_X4_stateNumber
set_option maxRecDepth 20000 in
theorem ggX4_ifLearned_X4_isShape : GoodIn wsX4_ifLearned wsX4_isShape := goodIn_r _ [12] (by decide +kernel) (by decide +kernel)
set_option maxRecDepth 20000 in
theorem gX4_ifLearned_X4_isShape : GoodIn wsX4_ifLearned (va_wsS RX4 45 yX4_isShape wsX4_isShape) := goodIn_app (goodIn_of _ (by decide +kernel)) ggX4_ifLearned_X4_isShape
set_option maxRecDepth 20000 in
theorem ggX4_ifLearned_X1_read : GoodIn wsX4_ifLearned wsX1_read := goodIn_r _ [17, 18, 19, 20, 21, 22, 23, 24, 25, 26, 27, 28, 29, 30, 31, 32, 33, 34, 16, 35, 36, 37, 38, 39, 40, 41, 42, 43, 44, 45, 46, 47, 48, 49, 50, 51, 52, 53, 54, 55, 56, 57, 58, 59, 60, 61, 62, 63, 64, 65, 66, 67, 68, 69, 70, 71, 72, 73, 74, 75, 76, 77, 78, 79, 80, 81, 82, 83, 84, 85, 86, 87, 88, 89, 90, 91, 92, 93, 94, 95, 96, 97, 98, 99, 100, 101, 102, 103, 104, 181, 182, 183, 184, 185, 186, 187, 188, 189, 190] (by decide +kernel) (by decide +kernel)
set_option maxRecDepth 20000 in
theorem gX4_ifLearned_X1_read : GoodIn wsX4_ifLearned (wsV RX4 60 RX1 yX1_read wsX1_read) := goodIn_app (goodIn_of _ (by decide +kernel)) ggX4_ifLearned_X1_read
set_option maxRecDepth 20000 in
theorem ggX4_ifLearned_X2_tree : GoodIn wsX4_ifLearned wsX2_tree := goodIn_r _ [109, 110, 111, 191, 192, 193] (by decide +kernel) (by decide +kernel)
set_option maxRecDepth 20000 in
theorem gX4_ifLearned_X2_tree : GoodIn wsX4_ifLearned (wsV RX4 69 RX2 yX2_tree wsX2_tree) := goodIn_app (goodIn_of _ (by decide +kernel)) ggX4_ifLearned_X2_tree
set_option maxRecDepth 20000 in
theorem ggX4_ifLearned_X4_workOutLearned : GoodIn wsX4_ifLearned wsX4_workOutLearned := goodIn_r _ [115, 5, 116, 117, 118, 119, 120, 121, 28, 122, 51, 30, 31, 123, 124, 125, 126, 127, 128, 129, 130, 72, 73, 74, 131, 132, 133, 11, 134, 135, 48, 49, 50, 136, 137, 138, 139, 140, 141, 142, 143, 144, 145, 146, 147, 148, 67, 68, 69, 70, 71, 149, 150, 151, 152, 153, 154, 155, 156, 157, 158, 159, 173, 174, 175, 176, 177, 178, 179, 180, 181, 182, 183, 184, 185, 186, 187, 188, 189, 190] (by decide +kernel) (by decide +kernel)
set_option maxRecDepth 20000 in
theorem gX4_ifLearned_X4_workOutLearned : GoodIn wsX4_ifLearned (wsV RX4 73 RX4 yX4_workOutLearned wsX4_workOutLearned) := goodIn_app (goodIn_of _ (by decide +kernel)) ggX4_ifLearned_X4_workOutLearned
set_option maxRecDepth 20000 in
theorem ggX4_ifLearned_X4_outlookNumber : GoodIn wsX4_ifLearned wsX4_outlookNumber := goodIn_r _ [163, 116, 118, 164, 165, 166, 11, 167, 8, 168, 169, 170, 171, 172, 135, 48, 49, 28, 50, 30, 51, 173, 174, 175, 176, 177, 178, 179, 180, 188, 189, 190, 191, 192, 193] (by decide +kernel) (by decide +kernel)
set_option maxRecDepth 20000 in
theorem gX4_ifLearned_X4_outlookNumber : GoodIn wsX4_ifLearned (wsV RX4 179 RX4 yX4_outlookNumber wsX4_outlookNumber) := goodIn_app (goodIn_of _ (by decide +kernel)) ggX4_ifLearned_X4_outlookNumber
set_option maxRecDepth 20000 in
theorem ggX4_covers_X4_isShape : GoodIn wsX4_covers wsX4_isShape := goodIn_r _ [6] (by decide +kernel) (by decide +kernel)
set_option maxRecDepth 20000 in
theorem gX4_covers_X4_isShape : GoodIn wsX4_covers (va_wsS RX4 45 yX4_isShape wsX4_isShape) := goodIn_app (goodIn_of _ (by decide +kernel)) ggX4_covers_X4_isShape
set_option maxRecDepth 20000 in
theorem ggX4_covers_X4_coversOther : GoodIn wsX4_covers wsX4_coversOther := goodIn_r _ [10, 11, 12, 13, 14, 15, 16, 17, 18, 19, 20, 21, 5, 22, 23, 24, 25, 26, 27, 28, 29, 30, 31, 32, 33, 34, 35, 36, 37, 38, 39, 40, 41, 42, 43, 44, 45, 46, 47, 48, 49, 50, 51, 52, 53, 54, 55, 56, 57, 58, 59] (by decide +kernel) (by decide +kernel)
set_option maxRecDepth 20000 in
theorem gX4_covers_X4_coversOther : GoodIn wsX4_covers (wsV RX4 182 RX4 yX4_coversOther wsX4_coversOther) := goodIn_app (goodIn_of _ (by decide +kernel)) ggX4_covers_X4_coversOther
set_option maxRecDepth 20000 in
theorem ggX4_sureShare_X4_isShape : GoodIn wsX4_sureShare wsX4_isShape := goodIn_r _ [7] (by decide +kernel) (by decide +kernel)
set_option maxRecDepth 20000 in
theorem gX4_sureShare_X4_isShape : GoodIn wsX4_sureShare (va_wsS RX4 45 yX4_isShape wsX4_isShape) := goodIn_app (goodIn_of _ (by decide +kernel)) ggX4_sureShare_X4_isShape
set_option maxRecDepth 20000 in
theorem ggX4_sureShare_X2_tree : GoodIn wsX4_sureShare wsX2_tree := goodIn_r _ [12, 13, 14, 34, 35, 36] (by decide +kernel) (by decide +kernel)
set_option maxRecDepth 20000 in
theorem gX4_sureShare_X2_tree : GoodIn wsX4_sureShare (wsV RX4 69 RX2 yX2_tree wsX2_tree) := goodIn_app (goodIn_of _ (by decide +kernel)) ggX4_sureShare_X2_tree
set_option maxRecDepth 20000 in
theorem ggX4_sureShare_X4_shareOfSure : GoodIn wsX4_sureShare wsX4_shareOfSure := goodIn_r _ [17, 18, 19, 20, 21, 22, 23, 24, 25, 37, 38, 39] (by decide +kernel) (by decide +kernel)
set_option maxRecDepth 20000 in
theorem gX4_sureShare_X4_shareOfSure : GoodIn wsX4_sureShare (va_wsS RX4 185 yX4_shareOfSure wsX4_shareOfSure) := goodIn_app (goodIn_of _ (by decide +kernel)) ggX4_sureShare_X4_shareOfSure
set_option maxRecDepth 20000 in
theorem ggX4_saveState_X4_dropOldest : GoodIn wsX4_saveState wsX4_dropOldest := goodIn_r _ [8, 2, 1, 9, 10, 11, 7, 12, 36, 37, 38, 39, 40, 41, 42, 43] (by decide +kernel) (by decide +kernel)
set_option maxRecDepth 20000 in
theorem gX4_saveState_X4_dropOldest : GoodIn wsX4_saveState (wsV RX4 211 RX4 yX4_dropOldest wsX4_dropOldest) := goodIn_app (goodIn_of _ (by decide +kernel)) ggX4_saveState_X4_dropOldest
set_option maxRecDepth 20000 in
theorem ggX4_saveState_X4_savedAt : GoodIn wsX4_saveState wsX4_savedAt := goodIn_r _ [12, 2, 36, 37, 38, 39, 40, 41, 42, 43] (by decide +kernel) (by decide +kernel)
set_option maxRecDepth 20000 in
theorem gX4_saveState_X4_savedAt : GoodIn wsX4_saveState (wsV RX4 128 RX4 yX4_savedAt wsX4_savedAt) := goodIn_app (goodIn_of _ (by decide +kernel)) ggX4_saveState_X4_savedAt
set_option maxRecDepth 20000 in
theorem ggX4_saveState_X2_copyFrom : GoodIn wsX4_saveState wsX2_copyFrom := goodIn_r _ [17, 18, 19, 20, 21, 22, 23, 24, 25, 26, 27, 28, 29, 30, 31, 32, 33, 34, 35, 44, 45, 46, 47, 48, 49] (by decide +kernel) (by decide +kernel)
set_option maxRecDepth 20000 in
theorem gX4_saveState_X2_copyFrom : GoodIn wsX4_saveState (wsV RX4 134 RX2 yX2_copyFrom wsX2_copyFrom) := goodIn_app (goodIn_of _ (by decide +kernel)) ggX4_saveState_X2_copyFrom
set_option maxRecDepth 20000 in
theorem ggX4_dropOldest_X4_savedAt : GoodIn wsX4_dropOldest wsX4_savedAt := goodIn_r _ [7, 1, 8, 9, 10, 11, 12, 13, 14, 15] (by decide +kernel) (by decide +kernel)
set_option maxRecDepth 20000 in
theorem gX4_dropOldest_X4_savedAt : GoodIn wsX4_dropOldest (wsV RX4 128 RX4 yX4_savedAt wsX4_savedAt) := goodIn_app (goodIn_of _ (by decide +kernel)) ggX4_dropOldest_X4_savedAt
set_option maxRecDepth 20000 in
theorem ggX4_takeWork_X3_markOptional : GoodIn wsX4_takeWork wsX3_markOptional := goodIn_r _ [6, 7, 8, 9, 10, 5, 11, 12, 13, 14, 15, 16, 17, 18, 19, 20, 41, 42, 43] (by decide +kernel) (by decide +kernel)
set_option maxRecDepth 20000 in
theorem gX4_takeWork_X3_markOptional : GoodIn wsX4_takeWork (wsV RX4 214 RX3 yX3_markOptional wsX3_markOptional) := goodIn_app (goodIn_of _ (by decide +kernel)) ggX4_takeWork_X3_markOptional
set_option maxRecDepth 20000 in
theorem ggX4_takeWork_X3_copyFrom : GoodIn wsX4_takeWork wsX3_copyFrom := goodIn_r _ [24, 12, 7, 25, 26, 27, 5, 28, 29, 30, 31, 32, 41, 42, 43] (by decide +kernel) (by decide +kernel)
set_option maxRecDepth 20000 in
theorem gX4_takeWork_X3_copyFrom : GoodIn wsX4_takeWork (wsV RX4 107 RX3 yX3_copyFrom wsX3_copyFrom) := goodIn_app (goodIn_of _ (by decide +kernel)) ggX4_takeWork_X3_copyFrom
set_option maxRecDepth 20000 in
theorem ggX4_nodeNumber_X3_get : GoodIn wsX4_nodeNumber wsX3_get := goodIn_r _ [5, 6, 7, 21, 22, 23] (by decide +kernel) (by decide +kernel)
set_option maxRecDepth 20000 in
theorem gX4_nodeNumber_X3_get : GoodIn wsX4_nodeNumber (wsV RX4 217 RX3 yX3_get wsX3_get) := goodIn_app (goodIn_of _ (by decide +kernel)) ggX4_nodeNumber_X3_get
set_option maxRecDepth 20000 in
theorem ggX4_nodeNumber_X3_above : GoodIn wsX4_nodeNumber wsX3_above := goodIn_r _ [11, 12, 2, 3, 4, 5, 6, 7, 21, 22, 23] (by decide +kernel) (by decide +kernel)
set_option maxRecDepth 20000 in
theorem gX4_nodeNumber_X3_above : GoodIn wsX4_nodeNumber (wsV RX4 220 RX3 yX3_above wsX3_above) := goodIn_app (goodIn_of _ (by decide +kernel)) ggX4_nodeNumber_X3_above
set_option maxRecDepth 20000 in
theorem ggX4_nodeNumber_X3_countBelow : GoodIn wsX4_nodeNumber wsX3_countBelow := goodIn_r _ [16, 12, 2, 3, 4, 5, 6, 7, 17, 18, 19, 20, 21, 22, 23] (by decide +kernel) (by decide +kernel)
set_option maxRecDepth 20000 in
theorem gX4_nodeNumber_X3_countBelow : GoodIn wsX4_nodeNumber (wsV RX4 223 RX3 yX3_countBelow wsX3_countBelow) := goodIn_app (goodIn_of _ (by decide +kernel)) ggX4_nodeNumber_X3_countBelow
set_option maxRecDepth 20000 in
theorem ggX4_shapeNumber_X3_get : GoodIn wsX4_shapeNumber wsX3_get := goodIn_r _ [11, 12, 13, 14, 15, 16] (by decide +kernel) (by decide +kernel)
set_option maxRecDepth 20000 in
theorem gX4_shapeNumber_X3_get : GoodIn wsX4_shapeNumber (wsV RX4 217 RX3 yX3_get wsX3_get) := goodIn_app (goodIn_of _ (by decide +kernel)) ggX4_shapeNumber_X3_get
set_option maxRecDepth 20000 in
theorem ggX4_shareOfSure_X3_get : GoodIn wsX4_shareOfSure wsX3_get := goodIn_r _ [6, 7, 8, 9, 10, 11] (by decide +kernel) (by decide +kernel)
set_option maxRecDepth 20000 in
theorem gX4_shareOfSure_X3_get : GoodIn wsX4_shareOfSure (wsV RX4 217 RX3 yX3_get wsX3_get) := goodIn_app (goodIn_of _ (by decide +kernel)) ggX4_shareOfSure_X3_get
set_option maxRecDepth 20000 in
theorem ggX4_workOutLearned_X3_copyFrom : GoodIn wsX4_workOutLearned wsX3_copyFrom := goodIn_r _ [9, 10, 11, 12, 13, 14, 8, 15, 16, 17, 18, 19, 77, 78, 79] (by decide +kernel) (by decide +kernel)
set_option maxRecDepth 20000 in
theorem gX4_workOutLearned_X3_copyFrom : GoodIn wsX4_workOutLearned (wsV RX4 107 RX3 yX3_copyFrom wsX3_copyFrom) := goodIn_app (goodIn_of _ (by decide +kernel)) ggX4_workOutLearned_X3_copyFrom
set_option maxRecDepth 20000 in
theorem ggX4_workOutLearned_X3_put : GoodIn wsX4_workOutLearned wsX3_put := goodIn_r _ [23, 11, 10, 77, 78, 79] (by decide +kernel) (by decide +kernel)
set_option maxRecDepth 20000 in
theorem gX4_workOutLearned_X3_put : GoodIn wsX4_workOutLearned (wsV RX4 245 RX3 yX3_put wsX3_put) := goodIn_app (goodIn_of _ (by decide +kernel)) ggX4_workOutLearned_X3_put
set_option maxRecDepth 20000 in
theorem ggX4_workOutLearned_X4_showValue : GoodIn wsX4_workOutLearned wsX4_showValue := goodIn_r _ [28, 2, 4, 3, 29, 30, 31, 8, 32, 11, 10, 20, 21, 22, 23, 33, 34, 35, 36, 37, 38, 39, 40, 41, 42, 43, 44, 45, 13, 14, 15, 16, 17, 18, 19, 46, 47, 48, 49, 50, 51, 52, 27, 53, 54, 55, 56, 57, 58, 59, 60, 61, 62, 63, 64, 65, 66, 67, 68, 69, 77, 78, 79] (by decide +kernel) (by decide +kernel)
set_option maxRecDepth 20000 in
theorem gX4_workOutLearned_X4_showValue : GoodIn wsX4_workOutLearned (wsV RX4 249 RX4 yX4_showValue wsX4_showValue) := goodIn_app (goodIn_of _ (by decide +kernel)) ggX4_workOutLearned_X4_showValue
set_option maxRecDepth 20000 in
theorem ggX4_showValue_X3_get : GoodIn wsX4_showValue wsX3_get := goodIn_r _ [8, 9, 10, 60, 61, 62] (by decide +kernel) (by decide +kernel)
set_option maxRecDepth 20000 in
theorem gX4_showValue_X3_get : GoodIn wsX4_showValue (wsV RX4 217 RX3 yX3_get wsX3_get) := goodIn_app (goodIn_of _ (by decide +kernel)) ggX4_showValue_X3_get
set_option maxRecDepth 20000 in
theorem ggX4_showValue_X3_put : GoodIn wsX4_showValue wsX3_put := goodIn_r _ [14, 9, 10, 60, 61, 62] (by decide +kernel) (by decide +kernel)
set_option maxRecDepth 20000 in
theorem gX4_showValue_X3_put : GoodIn wsX4_showValue (wsV RX4 245 RX3 yX3_put wsX3_put) := goodIn_app (goodIn_of _ (by decide +kernel)) ggX4_showValue_X3_put
set_option maxRecDepth 20000 in
theorem ggX4_showValue_X3_findBelow : GoodIn wsX4_showValue wsX3_findBelow := goodIn_r _ [18, 9, 19, 20, 21, 7, 22, 23, 5, 6, 8, 10, 60, 61, 62] (by decide +kernel) (by decide +kernel)
set_option maxRecDepth 20000 in
theorem gX4_showValue_X3_findBelow : GoodIn wsX4_showValue (wsV RX4 150 RX3 yX3_findBelow wsX3_findBelow) := goodIn_app (goodIn_of _ (by decide +kernel)) ggX4_showValue_X3_findBelow
set_option maxRecDepth 20000 in
theorem ggX4_showValue_X3_insertBelow : GoodIn wsX4_showValue wsX3_insertBelow := goodIn_r _ [27, 9, 10, 19, 20, 21, 7, 22, 23, 5, 6, 8, 28, 29, 30, 31, 32, 33, 34, 35, 36, 37, 38, 39, 12, 13, 14, 60, 61, 62] (by decide +kernel) (by decide +kernel)
set_option maxRecDepth 20000 in
theorem gX4_showValue_X3_insertBelow : GoodIn wsX4_showValue (wsV RX4 253 RX3 yX3_insertBelow wsX3_insertBelow) := goodIn_app (goodIn_of _ (by decide +kernel)) ggX4_showValue_X3_insertBelow
set_option maxRecDepth 20000 in
theorem ggX4_showValue_X4_joinKinds : GoodIn wsX4_showValue wsX4_joinKinds := goodIn_r _ [43] (by decide +kernel) (by decide +kernel)
set_option maxRecDepth 20000 in
theorem gX4_showValue_X4_joinKinds : GoodIn wsX4_showValue (va_wsS RX4 256 yX4_joinKinds wsX4_joinKinds) := goodIn_app (goodIn_of _ (by decide +kernel)) ggX4_showValue_X4_joinKinds
set_option maxRecDepth 20000 in
theorem ggX4_showValue_X3_dropBelow : GoodIn wsX4_showValue wsX3_dropBelow := goodIn_r _ [47, 10, 9, 48, 49, 50, 7, 51, 23, 5, 6, 8, 28, 29, 30, 31, 32, 33, 34, 60, 61, 62] (by decide +kernel) (by decide +kernel)
set_option maxRecDepth 20000 in
theorem gX4_showValue_X3_dropBelow : GoodIn wsX4_showValue (wsV RX4 259 RX3 yX3_dropBelow wsX3_dropBelow) := goodIn_app (goodIn_of _ (by decide +kernel)) ggX4_showValue_X3_dropBelow
set_option maxRecDepth 20000 in
theorem ggX4_isRefused_X4_bringsAny : GoodIn wsX4_isRefused wsX4_bringsAny := goodIn_r _ [9, 1, 2, 10, 11, 12, 13, 14, 15, 16, 17, 18, 19, 20, 21, 22, 23, 24, 25, 26, 27] (by decide +kernel) (by decide +kernel)
set_option maxRecDepth 20000 in
theorem gX4_isRefused_X4_bringsAny : GoodIn wsX4_isRefused (wsV RX4 263 RX4 yX4_bringsAny wsX4_bringsAny) := goodIn_app (goodIn_of _ (by decide +kernel)) ggX4_isRefused_X4_bringsAny
set_option maxRecDepth 20000 in
theorem ggX4_bringsAny_X3_get : GoodIn wsX4_bringsAny wsX3_get := goodIn_r _ [7, 8, 9, 18, 19, 20] (by decide +kernel) (by decide +kernel)
set_option maxRecDepth 20000 in
theorem gX4_bringsAny_X3_get : GoodIn wsX4_bringsAny (wsV RX4 217 RX3 yX3_get wsX3_get) := goodIn_app (goodIn_of _ (by decide +kernel)) ggX4_bringsAny_X3_get
set_option maxRecDepth 20000 in
theorem ggX4_outlookNumber_X4_isRefused : GoodIn wsX4_outlookNumber wsX4_isRefused := goodIn_r _ [7, 1, 2, 8, 9, 10, 11, 12, 6, 13, 14, 15, 16, 17, 18, 19, 20, 21, 22, 23, 24, 25, 26, 27, 28, 29, 30, 31, 32, 33, 34] (by decide +kernel) (by decide +kernel)
set_option maxRecDepth 20000 in
theorem gX4_outlookNumber_X4_isRefused : GoodIn wsX4_outlookNumber (wsV RX4 77 RX4 yX4_isRefused wsX4_isRefused) := goodIn_app (goodIn_of _ (by decide +kernel)) ggX4_outlookNumber_X4_isRefused
set_option maxRecDepth 20000 in
theorem ggX4_outlookNumber_X3_get : GoodIn wsX4_outlookNumber wsX3_get := goodIn_r _ [18, 19, 20, 29, 30, 31] (by decide +kernel) (by decide +kernel)
set_option maxRecDepth 20000 in
theorem gX4_outlookNumber_X3_get : GoodIn wsX4_outlookNumber (wsV RX4 217 RX3 yX3_get wsX3_get) := goodIn_app (goodIn_of _ (by decide +kernel)) ggX4_outlookNumber_X3_get
set_option maxRecDepth 20000 in
theorem ggX4_workOutJoined_X3_clear : GoodIn wsX4_workOutJoined wsX3_clear := goodIn_r _ [8, 9, 10, 57, 58, 59] (by decide +kernel) (by decide +kernel)
set_option maxRecDepth 20000 in
theorem gX4_workOutJoined_X3_clear : GoodIn wsX4_workOutJoined (wsV RX4 101 RX3 yX3_clear wsX3_clear) := goodIn_app (goodIn_of _ (by decide +kernel)) ggX4_workOutJoined_X3_clear
set_option maxRecDepth 20000 in
theorem ggX4_workOutJoined_X4_joinNodes : GoodIn wsX4_workOutJoined wsX4_joinNodes := goodIn_r _ [14, 15, 16, 17, 18, 2, 19, 20, 21, 7, 22, 9, 23, 24, 25, 13, 26, 27, 28, 29, 30, 31, 32, 33, 34, 35, 36, 37, 38, 39, 40, 41, 42, 43, 44, 45, 46, 47, 48, 11, 12, 57, 58, 59] (by decide +kernel) (by decide +kernel)
set_option maxRecDepth 20000 in
theorem gX4_workOutJoined_X4_joinNodes : GoodIn wsX4_workOutJoined (va_wsS RX4 266 yX4_joinNodes wsX4_joinNodes) := goodIn_app (goodIn_of _ (by decide +kernel)) ggX4_workOutJoined_X4_joinNodes
set_option maxRecDepth 20000 in
theorem ggX4_joinNodes_X3_get : GoodIn wsX4_joinNodes wsX3_get := goodIn_r _ [10, 11, 12, 41, 42, 43] (by decide +kernel) (by decide +kernel)
set_option maxRecDepth 20000 in
theorem gX4_joinNodes_X3_get : GoodIn wsX4_joinNodes (wsV RX4 217 RX3 yX3_get wsX3_get) := goodIn_app (goodIn_of _ (by decide +kernel)) ggX4_joinNodes_X3_get
set_option maxRecDepth 20000 in
theorem ggX4_joinNodes_X4_joinKinds : GoodIn wsX4_joinNodes wsX4_joinKinds := goodIn_r _ [16] (by decide +kernel) (by decide +kernel)
set_option maxRecDepth 20000 in
theorem gX4_joinNodes_X4_joinKinds : GoodIn wsX4_joinNodes (va_wsS RX4 256 yX4_joinKinds wsX4_joinKinds) := goodIn_app (goodIn_of _ (by decide +kernel)) ggX4_joinNodes_X4_joinKinds
set_option maxRecDepth 20000 in
theorem ggX4_joinNodes_X3_addRow : GoodIn wsX4_joinNodes wsX3_addRow := goodIn_r _ [20, 11, 21, 22, 23, 9, 24, 25, 26, 27, 28, 12, 41, 42, 43] (by decide +kernel) (by decide +kernel)
set_option maxRecDepth 20000 in
theorem gX4_joinNodes_X3_addRow : GoodIn wsX4_joinNodes (wsV RX4 270 RX3 yX3_addRow wsX3_addRow) := goodIn_app (goodIn_of _ (by decide +kernel)) ggX4_joinNodes_X3_addRow
set_option maxRecDepth 20000 in
theorem ggX4_joinNodes_X3_put : GoodIn wsX4_joinNodes wsX3_put := goodIn_r _ [28, 11, 12, 41, 42, 43] (by decide +kernel) (by decide +kernel)
set_option maxRecDepth 20000 in
theorem gX4_joinNodes_X3_put : GoodIn wsX4_joinNodes (wsV RX4 245 RX3 yX3_put wsX3_put) := goodIn_app (goodIn_of _ (by decide +kernel)) ggX4_joinNodes_X3_put
set_option maxRecDepth 20000 in
theorem ggX4_joinNodes_X3_findBelow : GoodIn wsX4_joinNodes wsX3_findBelow := goodIn_r _ [33, 11, 34, 35, 36, 9, 37, 38, 7, 8, 10, 12, 41, 42, 43] (by decide +kernel) (by decide +kernel)
set_option maxRecDepth 20000 in
theorem gX4_joinNodes_X3_findBelow : GoodIn wsX4_joinNodes (wsV RX4 150 RX3 yX3_findBelow wsX3_findBelow) := goodIn_app (goodIn_of _ (by decide +kernel)) ggX4_joinNodes_X3_findBelow
set_option maxRecDepth 20000 in
theorem ggX4_joinNodes_X4_joinNodes : GoodIn wsX4_joinNodes wsX4_joinNodes := goodIn_r _ [0, 1, 2, 3, 4, 5, 6, 7, 8, 9, 10, 11, 12, 13, 14, 15, 16, 17, 18, 19, 20, 21, 22, 23, 24, 25, 26, 27, 28, 29, 30, 31, 32, 33, 34, 35, 36, 37, 38, 39, 40, 41, 42, 43] (by decide +kernel) (by decide +kernel)
set_option maxRecDepth 20000 in
theorem gX4_joinNodes_X4_joinNodes : GoodIn wsX4_joinNodes (va_wsS RX4 266 yX4_joinNodes wsX4_joinNodes) := goodIn_app (goodIn_of _ (by decide +kernel)) ggX4_joinNodes_X4_joinNodes
set_option maxRecDepth 20000 in
theorem ggX4_coversOther_X2_tree : GoodIn wsX4_coversOther wsX2_tree := goodIn_r _ [7, 8, 9, 48, 49, 50] (by decide +kernel) (by decide +kernel)
set_option maxRecDepth 20000 in
theorem gX4_coversOther_X2_tree : GoodIn wsX4_coversOther (wsV RX4 69 RX2 yX2_tree wsX2_tree) := goodIn_app (goodIn_of _ (by decide +kernel)) ggX4_coversOther_X2_tree
set_option maxRecDepth 20000 in
theorem ggX4_coversOther_X4_coversNode : GoodIn wsX4_coversOther wsX4_coversNode := goodIn_r _ [13, 14, 15, 16, 17, 18, 19, 20, 21, 22, 12, 23, 24, 25, 26, 27, 28, 29, 30, 31, 32, 10, 11, 33, 34, 35, 36, 45, 46, 47] (by decide +kernel) (by decide +kernel)
set_option maxRecDepth 20000 in
theorem gX4_coversOther_X4_coversNode : GoodIn wsX4_coversOther (va_wsS RX4 273 yX4_coversNode wsX4_coversNode) := goodIn_app (goodIn_of _ (by decide +kernel)) ggX4_coversOther_X4_coversNode
set_option maxRecDepth 20000 in
theorem ggX4_coversNode_X3_get : GoodIn wsX4_coversNode wsX3_get := goodIn_r _ [5, 6, 7, 27, 28, 29] (by decide +kernel) (by decide +kernel)
set_option maxRecDepth 20000 in
theorem gX4_coversNode_X3_get : GoodIn wsX4_coversNode (wsV RX4 217 RX3 yX3_get wsX3_get) := goodIn_app (goodIn_of _ (by decide +kernel)) ggX4_coversNode_X3_get
set_option maxRecDepth 20000 in
theorem ggX4_coversNode_X4_joinKinds : GoodIn wsX4_coversNode wsX4_joinKinds := goodIn_r _ [11] (by decide +kernel) (by decide +kernel)
set_option maxRecDepth 20000 in
theorem gX4_coversNode_X4_joinKinds : GoodIn wsX4_coversNode (va_wsS RX4 256 yX4_joinKinds wsX4_joinKinds) := goodIn_app (goodIn_of _ (by decide +kernel)) ggX4_coversNode_X4_joinKinds
set_option maxRecDepth 20000 in
theorem ggX4_coversNode_X3_findBelow : GoodIn wsX4_coversNode wsX3_findBelow := goodIn_r _ [15, 6, 16, 17, 18, 4, 19, 20, 2, 3, 5, 7, 27, 28, 29] (by decide +kernel) (by decide +kernel)
set_option maxRecDepth 20000 in
theorem gX4_coversNode_X3_findBelow : GoodIn wsX4_coversNode (wsV RX4 150 RX3 yX3_findBelow wsX3_findBelow) := goodIn_app (goodIn_of _ (by decide +kernel)) ggX4_coversNode_X3_findBelow
set_option maxRecDepth 20000 in
theorem ggX4_coversNode_X4_coversNode : GoodIn wsX4_coversNode wsX4_coversNode := goodIn_r _ [0, 1, 2, 3, 4, 5, 6, 7, 8, 9, 10, 11, 12, 13, 14, 15, 16, 17, 18, 19, 20, 21, 22, 23, 24, 25, 26, 27, 28, 29] (by decide +kernel) (by decide +kernel)
set_option maxRecDepth 20000 in
theorem gX4_coversNode_X4_coversNode : GoodIn wsX4_coversNode (va_wsS RX4 273 yX4_coversNode wsX4_coversNode) := goodIn_app (goodIn_of _ (by decide +kernel)) ggX4_coversNode_X4_coversNode
set_option maxRecDepth 20000 in
theorem ggX4_coversNode_X4_mustBeThere : GoodIn wsX4_coversNode wsX4_mustBeThere := goodIn_r _ [25, 26, 17, 18, 4, 19, 6, 1, 2, 3, 5, 7, 27, 28, 29] (by decide +kernel) (by decide +kernel)
set_option maxRecDepth 20000 in
theorem gX4_coversNode_X4_mustBeThere : GoodIn wsX4_coversNode (va_wsS RX4 277 yX4_mustBeThere wsX4_mustBeThere) := goodIn_app (goodIn_of _ (by decide +kernel)) ggX4_coversNode_X4_mustBeThere
set_option maxRecDepth 20000 in
theorem ggX4_mustBeThere_X3_has : GoodIn wsX4_mustBeThere wsX3_has := goodIn_r _ [5, 6, 12, 13, 14] (by decide +kernel) (by decide +kernel)
set_option maxRecDepth 20000 in
theorem gX4_mustBeThere_X3_has : GoodIn wsX4_mustBeThere (wsV RX4 137 RX3 yX3_has wsX3_has) := goodIn_app (goodIn_of _ (by decide +kernel)) ggX4_mustBeThere_X3_has
set_option maxRecDepth 20000 in
theorem ggX4_mustBeThere_X3_get : GoodIn wsX4_mustBeThere wsX3_get := goodIn_r _ [10, 6, 11, 12, 13, 14] (by decide +kernel) (by decide +kernel)
set_option maxRecDepth 20000 in
theorem gX4_mustBeThere_X3_get : GoodIn wsX4_mustBeThere (wsV RX4 217 RX3 yX3_get wsX3_get) := goodIn_app (goodIn_of _ (by decide +kernel)) ggX4_mustBeThere_X3_get
set_option maxRecDepth 20000 in
theorem ggL_simple_X4_append : GoodIn wsL_simple wsX4_append := goodIn_ca (goodIn_ca (goodIn_r _ [5, 6, 7, 8, 9, 10, 11, 17, 18, 19, 20, 21, 22, 23, 24] (by decide +kernel) (by decide +kernel)) (goodIn_sub (fun _ h => List.mem_cons_of_mem _ (List.mem_append_left _ (List.mem_append_right _ h))) (by decide +kernel))) (goodIn_sub (fun _ h => List.mem_cons_of_mem _ (List.mem_append_right _ h)) (by decide +kernel))
set_option maxRecDepth 20000 in
theorem gL_simple_X4_append : GoodIn wsL_simple (wsV RL 9 RX4 yX4_append wsX4_append) := goodIn_app (goodIn_of _ (by decide +kernel)) ggL_simple_X4_append
set_option maxRecDepth 20000 in
theorem ggL_simple_L_low : GoodIn wsL_simple wsL_low := goodIn_r _ [15, 16] (by decide +kernel) (by decide +kernel)
set_option maxRecDepth 20000 in
theorem gL_simple_L_low : GoodIn wsL_simple (va_wsS RL 15 yL_low wsL_low) := goodIn_app (goodIn_of _ (by decide +kernel)) ggL_simple_L_low
set_option maxRecDepth 20000 in
theorem ggL_types_X4_append : GoodIn wsL_types wsX4_append := goodIn_ca (goodIn_ca (goodIn_r _ [5, 6, 7, 8, 9, 10, 11, 24, 25, 26, 27, 28, 29, 30, 31] (by decide +kernel) (by decide +kernel)) (goodIn_sub (fun _ h => List.mem_cons_of_mem _ (List.mem_append_left _ (List.mem_append_right _ h))) (by decide +kernel))) (goodIn_sub (fun _ h => List.mem_cons_of_mem _ (List.mem_append_right _ h)) (by decide +kernel))
set_option maxRecDepth 20000 in
theorem gL_types_X4_append : GoodIn wsL_types (wsV RL 9 RX4 yX4_append wsX4_append) := goodIn_app (goodIn_of _ (by decide +kernel)) ggL_types_X4_append
set_option maxRecDepth 20000 in
theorem ggL_types_L_cell : GoodIn wsL_types wsL_cell := goodIn_r _ [15, 16] (by decide +kernel) (by decide +kernel)
set_option maxRecDepth 20000 in
theorem gL_types_L_cell : GoodIn wsL_types (va_wsS RL 21 yL_cell wsL_cell) := goodIn_app (goodIn_of _ (by decide +kernel)) ggL_types_L_cell
set_option maxRecDepth 20000 in
theorem ggL_types_L_low : GoodIn wsL_types wsL_low := goodIn_r _ [19, 20] (by decide +kernel) (by decide +kernel)
set_option maxRecDepth 20000 in
theorem gL_types_L_low : GoodIn wsL_types (va_wsS RL 15 yL_low wsL_low) := goodIn_app (goodIn_of _ (by decide +kernel)) ggL_types_L_low
set_option maxRecDepth 20000 in
theorem ggL_types_L_simple : GoodIn wsL_types wsL_simple := goodIn_ca (goodIn_ca (goodIn_r _ [23, 1, 2, 3, 4, 5, 6, 7, 8, 9, 10, 11, 17, 18, 14, 19, 20, 24, 25, 26, 27, 28, 29, 30, 31] (by decide +kernel) (by decide +kernel)) (goodIn_sub (fun _ h => List.mem_cons_of_mem _ (List.mem_append_left _ (List.mem_append_right _ h))) (by decide +kernel))) (goodIn_sub (fun _ h => List.mem_cons_of_mem _ (List.mem_append_right _ h)) (by decide +kernel))
set_option maxRecDepth 20000 in
theorem gL_types_L_simple : GoodIn wsL_types (va_wsS RL 25 yL_simple wsL_simple) := goodIn_app (goodIn_of _ (by decide +kernel)) ggL_types_L_simple
set_option maxRecDepth 20000 in
theorem ggL_learn_X4_learn : GoodIn wsL_learn wsX4_learn := goodIn_ca (goodIn_ca (goodIn_ca (goodIn_r _ [6, 7, 8, 9, 10, 11, 12, 13, 14, 15, 16, 17, 18, 19, 5, 20, 21, 22, 23, 24, 25, 26, 27, 28, 29, 30, 31, 32, 33, 34, 35, 36, 37, 38, 39, 40, 41, 42, 43, 44, 45, 46, 47, 48, 49, 50, 51, 52, 53, 54, 55, 56, 57, 58, 59, 60, 61, 62, 63, 64, 65, 66, 67, 68, 69, 70, 71, 72, 73, 74, 75, 76, 77, 78, 79, 80, 81, 82, 83, 84, 85, 86, 87, 88, 89, 90, 91, 92, 93, 94, 95, 96, 97, 98, 99, 100, 101, 102, 103, 104, 105, 106, 107, 108, 109, 110, 111, 112, 113, 114, 115, 116, 117, 118, 119, 120, 121, 122, 123, 124, 125, 126, 127, 128, 129, 130, 131, 132, 133, 134, 135, 136, 137, 138, 139, 140, 141, 142, 143, 144, 145, 146, 147, 148, 149, 150, 151, 152, 153, 154, 155, 156, 157, 158, 159, 160, 161, 162, 163, 164, 165, 166, 167, 168, 169, 170, 171, 172, 173, 174, 175, 176, 177, 178, 179, 180, 181, 182, 183, 184, 185, 186, 187, 188, 189, 190, 191, 192, 193, 194, 195, 196, 197, 198, 199, 200, 201, 202, 203, 204, 205, 206, 207, 208, 209, 210, 211, 212, 213, 214, 215, 216, 217, 218, 219, 220, 221, 222, 223, 224, 225, 226, 227, 228] (by decide +kernel) (by decide +kernel)) (goodIn_sub (fun _ h => List.mem_cons_of_mem _ (List.mem_append_left _ (List.mem_append_left _ (List.mem_append_right _ h)))) (by decide +kernel))) (goodIn_sub (fun _ h => List.mem_cons_of_mem _ (List.mem_append_left _ (List.mem_append_right _ h))) (by decide +kernel))) (goodIn_sub (fun _ h => List.mem_cons_of_mem _ (List.mem_append_right _ h)) (by decide +kernel))
set_option maxRecDepth 20000 in
theorem gL_learn_X4_learn : GoodIn wsL_learn (wsV RL 29 RX4 yX4_learn wsX4_learn) := goodIn_app (goodIn_of _ (by decide +kernel)) ggL_learn_X4_learn
set_option maxRecDepth 20000 in
theorem ggL_join_X4_join : GoodIn wsL_join wsX4_join := goodIn_ca (goodIn_ca (goodIn_r _ [6, 7, 8, 9, 10, 11, 12, 13, 14, 15, 5, 16, 17, 18, 19, 20, 21, 22, 23, 24, 25, 26, 27, 28, 29, 30, 31, 32, 33, 34, 35, 36, 37, 38, 39, 40, 41, 42, 43, 44, 45, 46, 47, 48, 49, 50, 51, 52, 53, 54, 55, 56, 57, 58, 59, 60, 61, 62, 63, 64, 65, 66, 67, 68, 69, 70, 71, 72, 73, 74, 75, 76, 77, 78, 79, 80, 81, 82, 83, 84, 85, 86, 87, 88, 89, 90, 91, 92, 93, 94, 95, 96, 97, 98, 99, 100, 101, 102, 103, 104, 105, 106, 107, 108, 109, 110, 111, 112, 113, 114, 115, 116, 117, 118, 119, 120, 121, 122, 123, 124, 125, 126, 127, 128, 129] (by decide +kernel) (by decide +kernel)) (goodIn_sub (fun _ h => List.mem_cons_of_mem _ (List.mem_append_left _ (List.mem_append_right _ h))) (by decide +kernel))) (goodIn_sub (fun _ h => List.mem_cons_of_mem _ (List.mem_append_right _ h)) (by decide +kernel))
set_option maxRecDepth 20000 in
theorem gL_join_X4_join : GoodIn wsL_join (wsV RL 34 RX4 yX4_join wsX4_join) := goodIn_app (goodIn_of _ (by decide +kernel)) ggL_join_X4_join
set_option maxRecDepth 20000 in
theorem ggL_undo_X4_undo : GoodIn wsL_undo wsX4_undo := goodIn_ca (goodIn_r _ [6, 7, 8, 9, 10, 11, 12, 13, 5, 14, 15, 16, 17, 18, 19, 20, 21, 22, 23, 24, 25, 26, 27, 28, 29, 30, 31, 32, 33, 34, 35, 36, 37, 38, 39, 40, 41, 42, 43, 44, 45, 46, 47, 48, 49, 50, 51, 52] (by decide +kernel) (by decide +kernel)) (goodIn_sub (fun _ h => List.mem_cons_of_mem _ (List.mem_append_right _ h)) (by decide +kernel))
set_option maxRecDepth 20000 in
theorem gL_undo_X4_undo : GoodIn wsL_undo (wsV RL 37 RX4 yX4_undo wsX4_undo) := goodIn_app (goodIn_of _ (by decide +kernel)) ggL_undo_X4_undo
set_option maxRecDepth 20000 in
theorem ggL_node_X4_node : GoodIn wsL_node wsX4_node := goodIn_ca (goodIn_ca (goodIn_r _ [5, 6, 7, 8, 9, 10, 11, 12, 4, 13, 14, 15, 16, 17, 18, 19, 20, 21, 22, 23, 24, 25, 26, 27, 28, 29, 30, 31, 32, 33, 34, 35, 36, 37, 38, 39, 40, 41, 42, 43, 44, 45, 46, 47, 70, 71, 72, 73, 74, 75, 76, 77, 78, 79, 80, 81, 82, 83] (by decide +kernel) (by decide +kernel)) (goodIn_sub (fun _ h => List.mem_cons_of_mem _ (List.mem_append_left _ (List.mem_append_right _ h))) (by decide +kernel))) (goodIn_sub (fun _ h => List.mem_cons_of_mem _ (List.mem_append_right _ h)) (by decide +kernel))
set_option maxRecDepth 20000 in
theorem gL_node_X4_node : GoodIn wsL_node (wsV RL 41 RX4 yX4_node wsX4_node) := goodIn_app (goodIn_of _ (by decide +kernel)) ggL_node_X4_node
set_option maxRecDepth 20000 in
theorem ggL_node_X4_shape : GoodIn wsL_node wsX4_shape := goodIn_ca (goodIn_ca (goodIn_r _ [51, 6, 7, 8, 9, 10, 11, 12, 4, 13, 14, 15, 16, 17, 18, 19, 20, 52, 53, 54, 55, 56, 57, 58, 59, 60, 30, 31, 32, 24, 33, 26, 34, 70, 71, 72, 73, 74, 75, 76, 77, 78, 79, 80, 81, 82, 83] (by decide +kernel) (by decide +kernel)) (goodIn_sub (fun _ h => List.mem_cons_of_mem _ (List.mem_append_left _ (List.mem_append_right _ h))) (by decide +kernel))) (goodIn_sub (fun _ h => List.mem_cons_of_mem _ (List.mem_append_right _ h)) (by decide +kernel))
set_option maxRecDepth 20000 in
theorem gL_node_X4_shape : GoodIn wsL_node (wsV RL 45 RX4 yX4_shape wsX4_shape) := goodIn_app (goodIn_of _ (by decide +kernel)) ggL_node_X4_shape
set_option maxRecDepth 20000 in
theorem ggL_node_X4_child : GoodIn wsL_node wsX4_child := goodIn_ca (goodIn_ca (goodIn_r _ [64, 6, 7, 8, 9, 10, 11, 12, 4, 13, 14, 15, 16, 17, 18, 19, 20, 21, 22, 23, 24, 25, 26, 65, 66, 67, 68, 69, 39, 31, 32, 33, 34, 70, 71, 72, 73, 74, 75, 76, 77, 78, 79, 80, 81, 82, 83] (by decide +kernel) (by decide +kernel)) (goodIn_sub (fun _ h => List.mem_cons_of_mem _ (List.mem_append_left _ (List.mem_append_right _ h))) (by decide +kernel))) (goodIn_sub (fun _ h => List.mem_cons_of_mem _ (List.mem_append_right _ h)) (by decide +kernel))
set_option maxRecDepth 20000 in
theorem gL_node_X4_child : GoodIn wsL_node (wsV RL 48 RX4 yX4_child wsX4_child) := goodIn_app (goodIn_of _ (by decide +kernel)) ggL_node_X4_child
set_option maxRecDepth 20000 in
theorem ggL_shape_X4_shape : GoodIn wsL_shape wsX4_shape := goodIn_ca (goodIn_ca (goodIn_r _ [5, 6, 7, 8, 9, 10, 11, 12, 4, 13, 14, 15, 16, 17, 18, 19, 20, 21, 22, 23, 24, 25, 26, 27, 28, 29, 30, 31, 32, 33, 34, 35, 36, 81, 82, 83, 84, 85, 86, 87, 88, 89, 90, 91, 92, 93, 94] (by decide +kernel) (by decide +kernel)) (goodIn_sub (fun _ h => List.mem_cons_of_mem _ (List.mem_append_left _ (List.mem_append_right _ h))) (by decide +kernel))) (goodIn_sub (fun _ h => List.mem_cons_of_mem _ (List.mem_append_right _ h)) (by decide +kernel))
set_option maxRecDepth 20000 in
theorem gL_shape_X4_shape : GoodIn wsL_shape (wsV RL 45 RX4 yX4_shape wsX4_shape) := goodIn_app (goodIn_of _ (by decide +kernel)) ggL_shape_X4_shape
set_option maxRecDepth 20000 in
theorem ggL_shape_L_node : GoodIn wsL_shape wsL_node := goodIn_ca (goodIn_ca (goodIn_r _ [40, 41, 42, 43, 4, 44, 6, 7, 8, 9, 10, 11, 12, 13, 14, 15, 16, 17, 18, 19, 20, 45, 46, 47, 33, 48, 35, 49, 50, 51, 30, 31, 32, 34, 36, 52, 53, 54, 55, 56, 57, 58, 59, 60, 61, 62, 63, 64, 1, 2, 3, 5, 21, 22, 23, 24, 25, 26, 27, 28, 29, 65, 66, 67, 68, 69, 70, 71, 72, 73, 81, 82, 83, 84, 85, 86, 87, 88, 89, 90, 91, 92, 93, 94] (by decide +kernel) (by decide +kernel)) (goodIn_sub (fun _ h => List.mem_cons_of_mem _ (List.mem_append_left _ (List.mem_append_right _ h))) (by decide +kernel))) (goodIn_sub (fun _ h => List.mem_cons_of_mem _ (List.mem_append_right _ h)) (by decide +kernel))
set_option maxRecDepth 20000 in
theorem gL_shape_L_node : GoodIn wsL_shape (va_wsS RL 51 yL_node wsL_node) := goodIn_app (goodIn_of _ (by decide +kernel)) ggL_shape_L_node
set_option maxRecDepth 20000 in
theorem ggL_shape_X4_node : GoodIn wsL_shape wsX4_node := goodIn_ca (goodIn_ca (goodIn_r _ [44, 6, 7, 8, 9, 10, 11, 12, 4, 13, 14, 15, 16, 17, 18, 19, 20, 45, 46, 47, 33, 48, 35, 49, 50, 51, 30, 31, 32, 34, 36, 52, 53, 54, 55, 56, 57, 58, 59, 60, 61, 62, 63, 64, 81, 82, 83, 84, 85, 86, 87, 88, 89, 90, 91, 92, 93, 94] (by decide +kernel) (by decide +kernel)) (goodIn_sub (fun _ h => List.mem_cons_of_mem _ (List.mem_append_left _ (List.mem_append_right _ h))) (by decide +kernel))) (goodIn_sub (fun _ h => List.mem_cons_of_mem _ (List.mem_append_right _ h)) (by decide +kernel))
set_option maxRecDepth 20000 in
theorem gL_shape_X4_node : GoodIn wsL_shape (wsV RL 41 RX4 yX4_node wsX4_node) := goodIn_app (goodIn_of _ (by decide +kernel)) ggL_shape_X4_node
set_option maxRecDepth 20000 in
theorem ggL_shape_X4_sureShare : GoodIn wsL_shape wsX4_sureShare := goodIn_ca (goodIn_r _ [77, 6, 7, 10, 11, 12, 4, 13, 14, 15, 16, 17, 18, 19, 20, 78, 79, 80, 25, 30, 31, 32, 33, 34, 35, 36, 81, 82, 83, 84, 85, 86, 87, 88, 89, 90, 91, 92, 93, 94] (by decide +kernel) (by decide +kernel)) (goodIn_sub (fun _ h => List.mem_cons_of_mem _ (List.mem_append_left _ (List.mem_append_right _ h))) (by decide +kernel))
set_option maxRecDepth 20000 in
theorem gL_shape_X4_sureShare : GoodIn wsL_shape (wsV RL 54 RX4 yX4_sureShare wsX4_sureShare) := goodIn_app (goodIn_of _ (by decide +kernel)) ggL_shape_X4_sureShare
set_option maxRecDepth 20000 in
theorem ggL_law_X4_init : GoodIn wsL_law wsX4_init := goodIn_r _ [5, 6, 7, 8, 9, 10, 11, 12, 13, 14, 15, 16, 17, 18, 19, 20, 21, 22, 23, 24, 25, 26, 27, 28, 29, 30, 31, 32, 33, 34, 35, 36, 37, 38, 39, 40, 41, 42, 43, 44, 45, 374, 375, 376, 377, 378, 379, 380, 381, 382, 383, 384, 385, 386, 387, 388, 389, 390, 391, 392, 393, 394, 395, 396, 397] (by decide +kernel) (by decide +kernel)
set_option maxRecDepth 20000 in
theorem gL_law_X4_init : GoodIn wsL_law (wsX4_init) := ggL_law_X4_init
set_option maxRecDepth 20000 in
theorem ggL_law_L_cell : GoodIn wsL_law wsL_cell := goodIn_r _ [49, 50] (by decide +kernel) (by decide +kernel)
set_option maxRecDepth 20000 in
theorem gL_law_L_cell : GoodIn wsL_law (va_wsS RL 21 yL_cell wsL_cell) := goodIn_app (goodIn_of _ (by decide +kernel)) ggL_law_L_cell
set_option maxRecDepth 20000 in
theorem ggL_law_L_low : GoodIn wsL_law wsL_low := goodIn_r _ [53, 54] (by decide +kernel) (by decide +kernel)
set_option maxRecDepth 20000 in
theorem gL_law_L_low : GoodIn wsL_law (va_wsS RL 15 yL_low wsL_low) := goodIn_app (goodIn_of _ (by decide +kernel)) ggL_law_L_low
set_option maxRecDepth 20000 in
theorem ggL_law_X4_count : GoodIn wsL_law wsX4_count := goodIn_ca (goodIn_r _ [58, 59, 60, 61, 62, 63, 2, 64, 18, 65, 66, 67, 374, 375, 376, 377, 378, 379, 380, 381, 389, 390, 391] (by decide +kernel) (by decide +kernel)) (goodIn_sub (fun _ h => List.mem_append_left _ (List.mem_append_left _ (List.mem_append_right _ h))) (by decide +kernel))
set_option maxRecDepth 20000 in
theorem gL_law_X4_count : GoodIn wsL_law (wsV RL 59 RX4 yX4_count wsX4_count) := goodIn_app (goodIn_of _ (by decide +kernel)) ggL_law_X4_count
set_option maxRecDepth 20000 in
theorem ggL_law_X4_shape : GoodIn wsL_law wsX4_shape := goodIn_ca (goodIn_ca (goodIn_r _ [71, 72, 73, 59, 60, 18, 74, 75, 2, 76, 77, 78, 79, 17, 80, 41, 42, 81, 82, 83, 84, 85, 86, 87, 88, 89, 90, 91, 92, 22, 93, 94, 36, 374, 375, 376, 377, 378, 379, 380, 381, 389, 390, 391, 392, 393, 394] (by decide +kernel) (by decide +kernel)) (goodIn_sub (fun _ h => List.mem_append_left _ (List.mem_append_right _ h)) (by decide +kernel))) (goodIn_sub (fun _ h => List.mem_append_left _ (List.mem_append_left _ (List.mem_append_right _ h))) (by decide +kernel))
set_option maxRecDepth 20000 in
theorem gL_law_X4_shape : GoodIn wsL_law (wsV RL 45 RX4 yX4_shape wsX4_shape) := goodIn_app (goodIn_of _ (by decide +kernel)) ggL_law_X4_shape
set_option maxRecDepth 20000 in
theorem ggL_law_X4_clearBuffer : GoodIn wsL_law wsX4_clearBuffer := goodIn_r _ [98, 66, 374, 375, 376, 377, 378, 379, 380, 381] (by decide +kernel) (by decide +kernel)
set_option maxRecDepth 20000 in
theorem gL_law_X4_clearBuffer : GoodIn wsL_law (wsV RL 62 RX4 yX4_clearBuffer wsX4_clearBuffer) := goodIn_app (goodIn_of _ (by decide +kernel)) ggL_law_X4_clearBuffer
set_option maxRecDepth 20000 in
theorem ggL_law_L_types : GoodIn wsL_law wsL_types := goodIn_ca (goodIn_ca (goodIn_r _ [101, 102, 103, 104, 2, 105, 59, 60, 106, 107, 66, 10, 46, 47, 48, 49, 50, 51, 52, 53, 54, 108, 109, 110, 374, 375, 376, 377, 378, 379, 380, 381] (by decide +kernel) (by decide +kernel)) (goodIn_sub (fun _ h => List.mem_append_left _ (List.mem_append_left _ (List.mem_append_right _ h))) (by decide +kernel))) (goodIn_sub (fun _ h => List.mem_append_right _ h) (by decide +kernel))
set_option maxRecDepth 20000 in
theorem gL_law_L_types : GoodIn wsL_law (va_wsS RL 65 yL_types wsL_types) := goodIn_app (goodIn_of _ (by decide +kernel)) ggL_law_L_types
set_option maxRecDepth 20000 in
theorem ggL_law_X4_ifLearned : GoodIn wsL_law wsX4_ifLearned := goodIn_ca (goodIn_ca (goodIn_r _ [114, 72, 73, 59, 60, 14, 10, 66, 18, 74, 75, 2, 76, 115, 116, 117, 13, 118, 32, 119, 120, 121, 122, 123, 124, 125, 126, 127, 22, 128, 94, 129, 130, 131, 132, 133, 134, 135, 136, 137, 138, 139, 140, 141, 142, 143, 144, 145, 91, 92, 93, 36, 146, 147, 148, 149, 150, 151, 152, 153, 154, 155, 156, 157, 158, 159, 160, 161, 162, 163, 164, 165, 166, 167, 168, 169, 170, 171, 172, 173, 174, 175, 176, 177, 178, 179, 180, 181, 182, 183, 184, 185, 186, 187, 188, 189, 190, 191, 192, 193, 194, 195, 196, 197, 198, 77, 78, 79, 17, 80, 41, 42, 199, 200, 201, 202, 23, 84, 85, 203, 204, 205, 206, 207, 208, 209, 210, 211, 212, 213, 214, 215, 216, 217, 218, 90, 219, 220, 221, 222, 223, 224, 225, 226, 227, 228, 229, 230, 231, 232, 233, 234, 235, 236, 237, 238, 239, 240, 241, 242, 243, 244, 245, 246, 247, 248, 249, 250, 65, 251, 252, 253, 254, 374, 375, 376, 377, 378, 379, 380, 381, 382, 383, 384, 385, 386, 387, 388, 392, 393, 394, 389, 390, 391] (by decide +kernel) (by decide +kernel)) (goodIn_sub (fun _ h => List.mem_append_left _ (List.mem_append_right _ h)) (by decide +kernel))) (goodIn_sub (fun _ h => List.mem_append_left _ (List.mem_append_left _ (List.mem_append_right _ h))) (by decide +kernel))
set_option maxRecDepth 20000 in
theorem gL_law_X4_ifLearned : GoodIn wsL_law (wsV RL 69 RX4 yX4_ifLearned wsX4_ifLearned) := goodIn_app (goodIn_of _ (by decide +kernel)) ggL_law_X4_ifLearned
set_option maxRecDepth 20000 in
theorem ggL_law_L_learn : GoodIn wsL_law wsL_learn := goodIn_ca (goodIn_ca (goodIn_ca (goodIn_r _ [257, 258, 259, 260, 261, 2, 262, 72, 73, 59, 60, 106, 107, 14, 10, 66, 18, 85, 74, 75, 76, 115, 116, 117, 13, 118, 32, 119, 120, 121, 122, 123, 124, 125, 126, 127, 22, 128, 94, 129, 130, 131, 132, 133, 134, 135, 136, 137, 138, 139, 140, 141, 142, 143, 144, 145, 91, 92, 93, 36, 146, 147, 148, 149, 150, 151, 152, 153, 154, 155, 156, 157, 158, 159, 160, 161, 162, 163, 164, 165, 166, 167, 168, 169, 170, 171, 172, 173, 174, 175, 176, 177, 178, 179, 180, 181, 182, 183, 184, 185, 186, 187, 188, 189, 190, 191, 192, 193, 194, 195, 196, 197, 198, 77, 78, 79, 17, 80, 41, 42, 199, 200, 201, 202, 23, 84, 203, 204, 205, 206, 207, 208, 209, 210, 211, 212, 213, 214, 215, 216, 217, 218, 90, 219, 220, 221, 222, 223, 224, 225, 226, 227, 228, 229, 230, 231, 232, 233, 234, 235, 236, 237, 238, 239, 240, 241, 242, 247, 248, 249, 250, 65, 251, 252, 253, 254, 263, 264, 265, 266, 67, 19, 267, 268, 269, 270, 271, 272, 273, 274, 275, 276, 277, 278, 279, 280, 281, 282, 283, 284, 285, 286, 287, 288, 289, 290, 291, 292, 374, 375, 376, 377, 378, 379, 380, 381, 392, 393, 394, 382, 383, 384, 385, 386, 387, 388, 389, 390, 391] (by decide +kernel) (by decide +kernel)) (goodIn_sub (fun _ h => List.mem_append_left _ (List.mem_append_right _ h)) (by decide +kernel))) (goodIn_sub (fun _ h => List.mem_append_left _ (List.mem_append_left _ (List.mem_append_right _ h))) (by decide +kernel))) (goodIn_sub (fun _ h => List.mem_append_right _ h) (by decide +kernel))
set_option maxRecDepth 20000 in
theorem gL_law_L_learn : GoodIn wsL_law (va_wsS RL 72 yL_learn wsL_learn) := goodIn_app (goodIn_of _ (by decide +kernel)) ggL_law_L_learn
set_option maxRecDepth 20000 in
theorem ggL_law_L_join : GoodIn wsL_law wsL_join := goodIn_ca (goodIn_ca (goodIn_r _ [295, 258, 296, 297, 298, 2, 299, 72, 73, 106, 107, 18, 23, 85, 74, 75, 76, 77, 78, 79, 17, 80, 41, 42, 300, 301, 302, 303, 84, 304, 126, 127, 22, 128, 94, 129, 305, 306, 307, 86, 87, 88, 89, 90, 91, 92, 93, 36, 232, 233, 234, 308, 158, 159, 160, 161, 162, 163, 164, 165, 166, 167, 168, 214, 219, 220, 221, 222, 223, 224, 225, 226, 227, 263, 264, 265, 266, 67, 19, 267, 268, 269, 270, 271, 272, 273, 274, 275, 276, 277, 278, 279, 280, 204, 205, 206, 207, 208, 209, 210, 211, 212, 213, 281, 282, 283, 284, 285, 286, 287, 288, 289, 290, 291, 292, 203, 374, 375, 376, 377, 378, 379, 380, 381, 392, 393, 394, 389, 390, 391] (by decide +kernel) (by decide +kernel)) (goodIn_sub (fun _ h => List.mem_append_left _ (List.mem_append_right _ h)) (by decide +kernel))) (goodIn_sub (fun _ h => List.mem_append_right _ h) (by decide +kernel))
set_option maxRecDepth 20000 in
theorem gL_law_L_join : GoodIn wsL_law (va_wsS RL 75 yL_join wsL_join) := goodIn_app (goodIn_of _ (by decide +kernel)) ggL_law_L_join
set_option maxRecDepth 20000 in
theorem ggL_law_X4_covers : GoodIn wsL_law wsX4_covers := goodIn_ca (goodIn_r _ [312, 72, 73, 74, 75, 2, 76, 313, 314, 315, 316, 18, 85, 77, 78, 79, 17, 80, 41, 42, 317, 318, 319, 90, 91, 92, 22, 93, 94, 36, 232, 233, 234, 219, 220, 221, 222, 223, 224, 225, 226, 227, 320, 321, 322, 323, 374, 375, 376, 377, 378, 379, 380, 381, 392, 393, 394, 389, 390, 391] (by decide +kernel) (by decide +kernel)) (goodIn_sub (fun _ h => List.mem_append_left _ (List.mem_append_right _ h)) (by decide +kernel))
set_option maxRecDepth 20000 in
theorem gL_law_X4_covers : GoodIn wsL_law (wsV RL 77 RX4 yX4_covers wsX4_covers) := goodIn_app (goodIn_of _ (by decide +kernel)) ggL_law_X4_covers
set_option maxRecDepth 20000 in
theorem ggL_law_X4_forget : GoodIn wsL_law wsX4_forget := goodIn_ca (goodIn_r _ [327, 72, 73, 18, 85, 74, 75, 2, 76, 263, 264, 265, 266, 67, 19, 267, 268, 269, 270, 271, 272, 273, 274, 275, 276, 277, 17, 278, 41, 42, 279, 280, 204, 205, 22, 206, 36, 94, 129, 207, 208, 209, 210, 211, 212, 213, 77, 78, 79, 80, 304, 126, 127, 128, 374, 375, 376, 377, 378, 379, 380, 381, 392, 393, 394, 389, 390, 391] (by decide +kernel) (by decide +kernel)) (goodIn_sub (fun _ h => List.mem_append_left _ (List.mem_append_right _ h)) (by decide +kernel))
set_option maxRecDepth 20000 in
theorem gL_law_X4_forget : GoodIn wsL_law (wsV RL 80 RX4 yX4_forget wsX4_forget) := goodIn_app (goodIn_of _ (by decide +kernel)) ggL_law_X4_forget
set_option maxRecDepth 20000 in
theorem ggL_law_X4_swap : GoodIn wsL_law wsX4_swap := goodIn_r _ [331, 23, 18, 332, 333, 85, 263, 264, 265, 2, 266, 67, 19, 267, 268, 269, 270, 271, 272, 273, 274, 275, 276, 277, 17, 278, 41, 42, 279, 280, 204, 205, 22, 206, 36, 94, 129, 207, 208, 209, 210, 211, 212, 213, 203, 374, 375, 376, 377, 378, 379, 380, 381, 389, 390, 391, 392, 393, 394] (by decide +kernel) (by decide +kernel)
set_option maxRecDepth 20000 in
theorem gL_law_X4_swap : GoodIn wsL_law (wsV RL 83 RX4 yX4_swap wsX4_swap) := goodIn_app (goodIn_of _ (by decide +kernel)) ggL_law_X4_swap
set_option maxRecDepth 20000 in
theorem ggL_law_X4_set : GoodIn wsL_law wsX4_set := goodIn_ca (goodIn_r _ [337, 59, 60, 18, 65, 263, 264, 265, 2, 266, 67, 19, 267, 268, 269, 270, 271, 272, 273, 274, 275, 276, 277, 17, 278, 41, 42, 279, 280, 204, 205, 22, 206, 36, 94, 129, 207, 208, 209, 210, 211, 212, 213, 374, 375, 376, 377, 378, 379, 380, 381, 389, 390, 391, 392, 393, 394] (by decide +kernel) (by decide +kernel)) (goodIn_sub (fun _ h => List.mem_append_left _ (List.mem_append_left _ (List.mem_append_right _ h))) (by decide +kernel))
set_option maxRecDepth 20000 in
theorem gL_law_X4_set : GoodIn wsL_law (wsV RL 86 RX4 yX4_set wsX4_set) := goodIn_app (goodIn_of _ (by decide +kernel)) ggL_law_X4_set
set_option maxRecDepth 20000 in
theorem ggL_law_L_undo : GoodIn wsL_law wsL_undo := goodIn_ca (goodIn_r _ [340, 258, 341, 342, 343, 2, 344, 106, 107, 67, 18, 271, 272, 273, 274, 19, 275, 276, 277, 17, 278, 41, 42, 279, 280, 204, 205, 22, 206, 36, 94, 129, 207, 208, 209, 210, 211, 212, 213, 374, 375, 376, 377, 378, 379, 380, 381, 389, 390, 391, 392, 393, 394] (by decide +kernel) (by decide +kernel)) (goodIn_sub (fun _ h => List.mem_append_right _ h) (by decide +kernel))
set_option maxRecDepth 20000 in
theorem gL_law_L_undo : GoodIn wsL_law (va_wsS RL 89 yL_undo wsL_undo) := goodIn_app (goodIn_of _ (by decide +kernel)) ggL_law_L_undo
set_option maxRecDepth 20000 in
theorem ggL_law_L_shape : GoodIn wsL_law wsL_shape := goodIn_ca (goodIn_ca (goodIn_r _ [347, 68, 69, 70, 2, 71, 72, 73, 59, 60, 18, 74, 75, 76, 77, 78, 79, 17, 80, 41, 42, 81, 82, 83, 84, 85, 86, 87, 88, 89, 90, 91, 92, 22, 93, 94, 36, 348, 349, 48, 350, 351, 352, 353, 354, 323, 224, 225, 226, 355, 356, 357, 358, 290, 291, 292, 227, 359, 360, 361, 362, 239, 240, 241, 242, 363, 364, 365, 366, 219, 220, 221, 222, 223, 367, 368, 369, 370, 371, 372, 373, 374, 375, 376, 377, 378, 379, 380, 381, 389, 390, 391, 392, 393, 394] (by decide +kernel) (by decide +kernel)) (goodIn_sub (fun _ h => List.mem_append_left _ (List.mem_append_right _ h)) (by decide +kernel))) (goodIn_sub (fun _ h => List.mem_append_left _ (List.mem_append_left _ (List.mem_append_right _ h))) (by decide +kernel))
set_option maxRecDepth 20000 in
theorem gL_law_L_shape : GoodIn wsL_law (va_wsS RL 92 yL_shape wsL_shape) := goodIn_app (goodIn_of _ (by decide +kernel)) ggL_law_L_shape
abbrev vwCl : List vw_C := [(RX0, TX0, 3), (RX1, TX1, 7), (RX2, TX2, 3), (RX3, TX3, 3), (RX4, TX4, 8)]
