/-! ===== BEGIN printed: names, fields, word lists, decode rows ===== -/
def RX0 : String := "PrioritySearchTree$Commands"
def TX0 : u_T := fun k => match k with
  | 0 => ("PrioritySearchTree$Commands", "input", "[I", true)
  | 1 => ("PrioritySearchTree$Commands", "length", "I", false)
  | 2 => ("PrioritySearchTree$Commands", "offset", "I", false)
  | 3 => ("PrioritySearchTree$Commands", "kinds", "[I", true)
  | 4 => ("PrioritySearchTree$Commands", "numbers", "[I", true)
  | _ => ("PrioritySearchTree$Commands", "count", "I", false)
def tyX0 : Nat → FieldType := fun k => match k with
  | 0 => .array .int
  | 1 => .int
  | 2 => .int
  | 3 => .array .int
  | 4 => .array .int
  | _ => .int
abbrev wsX00 : List Cond := u_ws RX0 TX0 6
theorem nmX0 : ∀ a, a < 6 → ∀ b, b < 6 → a ≠ b → (TX0 a).2.1 ≠ (TX0 b).2.1 := by decide +kernel
theorem tyX0_ok : ∀ k, k < 6 → parseFieldDescriptor (TX0 k).2.2.1 = some (tyX0 k) := by decide +kernel
abbrev cX0_init : ByteArray := prog_2_method_1_code
def yX0_init : MethodName := ⟨RX0, "<init>", "()V"⟩
def RX1 : String := "PrioritySearchTree$Data"
def TX1 : u_T := fun k => match k with
  | 0 => ("PrioritySearchTree$Data", "tree", "LPrioritySearchTree$Tree;", true)
  | 1 => ("PrioritySearchTree$Data", "windows", "LPrioritySearchTree$Windows;", true)
  | _ => ("PrioritySearchTree$Data", "rotations", "I", false)
def tyX1 : Nat → FieldType := fun k => match k with
  | 0 => .object "PrioritySearchTree$Tree"
  | 1 => .object "PrioritySearchTree$Windows"
  | _ => .int
abbrev wsX10 : List Cond := u_ws RX1 TX1 3
theorem nmX1 : ∀ a, a < 3 → ∀ b, b < 3 → a ≠ b → (TX1 a).2.1 ≠ (TX1 b).2.1 := by decide +kernel
theorem tyX1_ok : ∀ k, k < 3 → parseFieldDescriptor (TX1 k).2.2.1 = some (tyX1 k) := by decide +kernel
abbrev cX1_init : ByteArray := prog_3_method_1_code
def yX1_init : MethodName := ⟨RX1, "<init>", "()V"⟩
abbrev cX1_copyFrom : ByteArray := prog_3_method_2_code
def yX1_copyFrom : MethodName := ⟨RX1, "copyFrom", "(LPrioritySearchTree$Data;)V"⟩
abbrev cX1_countInWindow : ByteArray := prog_3_method_3_code
def yX1_countInWindow : MethodName := ⟨RX1, "countInWindow", "(I)I"⟩
abbrev cX1_slotInWindow : ByteArray := prog_3_method_4_code
def yX1_slotInWindow : MethodName := ⟨RX1, "slotInWindow", "(II)I"⟩
abbrev cX1_firstFullWindow : ByteArray := prog_3_method_5_code
def yX1_firstFullWindow : MethodName := ⟨RX1, "firstFullWindow", "(III)I"⟩
abbrev cX1_keepsLimits : ByteArray := prog_3_method_6_code
def yX1_keepsLimits : MethodName := ⟨RX1, "keepsLimits", "()Z"⟩
abbrev cX1_reasonAgainstInsert : ByteArray := prog_3_method_7_code
def yX1_reasonAgainstInsert : MethodName := ⟨RX1, "reasonAgainstInsert", "(II)I"⟩
abbrev cX1_reasonAgainstPriority : ByteArray := prog_3_method_8_code
def yX1_reasonAgainstPriority : MethodName := ⟨RX1, "reasonAgainstPriority", "(II)I"⟩
abbrev cX1_reasonAgainstMove : ByteArray := prog_3_method_9_code
def yX1_reasonAgainstMove : MethodName := ⟨RX1, "reasonAgainstMove", "(II)I"⟩
abbrev cX1_reasonAgainstWindow : ByteArray := prog_3_method_10_code
def yX1_reasonAgainstWindow : MethodName := ⟨RX1, "reasonAgainstWindow", "(IIII)I"⟩
abbrev cX1_detailOf : ByteArray := prog_3_method_11_code
def yX1_detailOf : MethodName := ⟨RX1, "detailOf", "(IIII)I"⟩
abbrev cX1_insertPoint : ByteArray := prog_3_method_12_code
def yX1_insertPoint : MethodName := ⟨RX1, "insertPoint", "(II)I"⟩
abbrev cX1_deletePoint : ByteArray := prog_3_method_13_code
def yX1_deletePoint : MethodName := ⟨RX1, "deletePoint", "(I)I"⟩
abbrev cX1_setPriority : ByteArray := prog_3_method_14_code
def yX1_setPriority : MethodName := ⟨RX1, "setPriority", "(II)I"⟩
abbrev cX1_movePoint : ByteArray := prog_3_method_15_code
def yX1_movePoint : MethodName := ⟨RX1, "movePoint", "(II)I"⟩
def RX2 : String := "PrioritySearchTree$History"
def TX2 : u_T := fun k => match k with
  | 0 => ("PrioritySearchTree$History", "earlier", "[LPrioritySearchTree$Data;", true)
  | 1 => ("PrioritySearchTree$History", "next", "I", false)
  | _ => ("PrioritySearchTree$History", "count", "I", false)
def tyX2 : Nat → FieldType := fun k => match k with
  | 0 => .array (.object "PrioritySearchTree$Data")
  | 1 => .int
  | _ => .int
abbrev wsX20 : List Cond := u_ws RX2 TX2 3
theorem nmX2 : ∀ a, a < 3 → ∀ b, b < 3 → a ≠ b → (TX2 a).2.1 ≠ (TX2 b).2.1 := by decide +kernel
theorem tyX2_ok : ∀ k, k < 3 → parseFieldDescriptor (TX2 k).2.2.1 = some (tyX2 k) := by decide +kernel
abbrev cX2_init : ByteArray := prog_4_method_1_code
def yX2_init : MethodName := ⟨RX2, "<init>", "()V"⟩
abbrev cX2_rowAt : ByteArray := prog_4_method_2_code
def yX2_rowAt : MethodName := ⟨RX2, "rowAt", "(I)LPrioritySearchTree$Data;"⟩
abbrev cX2_push : ByteArray := prog_4_method_3_code
def yX2_push : MethodName := ⟨RX2, "push", "(LPrioritySearchTree$Data;)V"⟩
def RX3 : String := "PrioritySearchTree$Output"
def TX3 : u_T := fun k => match k with
  | 0 => ("PrioritySearchTree$Output", "characters", "[I", true)
  | _ => ("PrioritySearchTree$Output", "length", "I", false)
def tyX3 : Nat → FieldType := fun k => match k with
  | 0 => .array .int
  | _ => .int
abbrev wsX30 : List Cond := u_ws RX3 TX3 2
theorem nmX3 : ∀ a, a < 2 → ∀ b, b < 2 → a ≠ b → (TX3 a).2.1 ≠ (TX3 b).2.1 := by decide +kernel
theorem tyX3_ok : ∀ k, k < 2 → parseFieldDescriptor (TX3 k).2.2.1 = some (tyX3 k) := by decide +kernel
abbrev cX3_init : ByteArray := prog_5_method_1_code
def yX3_init : MethodName := ⟨RX3, "<init>", "()V"⟩
abbrev cX3_clear : ByteArray := prog_5_method_2_code
def yX3_clear : MethodName := ⟨RX3, "clear", "()V"⟩
abbrev cX3_characterAt : ByteArray := prog_5_method_3_code
def yX3_characterAt : MethodName := ⟨RX3, "characterAt", "(I)I"⟩
abbrev cX3_write : ByteArray := prog_5_method_4_code
def yX3_write : MethodName := ⟨RX3, "write", "(I)V"⟩
abbrev cX3_writeNumber : ByteArray := prog_5_method_5_code
def yX3_writeNumber : MethodName := ⟨RX3, "writeNumber", "(I)V"⟩
def RX4 : String := "PrioritySearchTree$Tree"
def TX4 : u_T := fun k => match k with
  | 0 => ("PrioritySearchTree$Tree", "keys", "[I", true)
  | 1 => ("PrioritySearchTree$Tree", "priorities", "[I", true)
  | 2 => ("PrioritySearchTree$Tree", "parents", "[I", true)
  | 3 => ("PrioritySearchTree$Tree", "lefts", "[I", true)
  | 4 => ("PrioritySearchTree$Tree", "rights", "[I", true)
  | 5 => ("PrioritySearchTree$Tree", "counts", "[I", true)
  | _ => ("PrioritySearchTree$Tree", "top", "I", false)
def tyX4 : Nat → FieldType := fun k => match k with
  | 0 => .array .int
  | 1 => .array .int
  | 2 => .array .int
  | 3 => .array .int
  | 4 => .array .int
  | 5 => .array .int
  | _ => .int
abbrev wsX40 : List Cond := u_ws RX4 TX4 7
theorem nmX4 : ∀ a, a < 7 → ∀ b, b < 7 → a ≠ b → (TX4 a).2.1 ≠ (TX4 b).2.1 := by decide +kernel
theorem tyX4_ok : ∀ k, k < 7 → parseFieldDescriptor (TX4 k).2.2.1 = some (tyX4 k) := by decide +kernel
abbrev cX4_init : ByteArray := prog_6_method_1_code
def yX4_init : MethodName := ⟨RX4, "<init>", "()V"⟩
abbrev cX4_copyFrom : ByteArray := prog_6_method_2_code
def yX4_copyFrom : MethodName := ⟨RX4, "copyFrom", "(LPrioritySearchTree$Tree;)V"⟩
abbrev cX4_topmost : ByteArray := prog_6_method_3_code
def yX4_topmost : MethodName := ⟨RX4, "topmost", "()I"⟩
abbrev cX4_pointCount : ByteArray := prog_6_method_4_code
def yX4_pointCount : MethodName := ⟨RX4, "pointCount", "()I"⟩
abbrev cX4_keyIn : ByteArray := prog_6_method_5_code
def yX4_keyIn : MethodName := ⟨RX4, "keyIn", "(I)I"⟩
abbrev cX4_priorityIn : ByteArray := prog_6_method_6_code
def yX4_priorityIn : MethodName := ⟨RX4, "priorityIn", "(I)I"⟩
abbrev cX4_parentIn : ByteArray := prog_6_method_7_code
def yX4_parentIn : MethodName := ⟨RX4, "parentIn", "(I)I"⟩
abbrev cX4_leftIn : ByteArray := prog_6_method_8_code
def yX4_leftIn : MethodName := ⟨RX4, "leftIn", "(I)I"⟩
abbrev cX4_rightIn : ByteArray := prog_6_method_9_code
def yX4_rightIn : MethodName := ⟨RX4, "rightIn", "(I)I"⟩
abbrev cX4_countIn : ByteArray := prog_6_method_10_code
def yX4_countIn : MethodName := ⟨RX4, "countIn", "(I)I"⟩
abbrev cX4_belongsAbove : ByteArray := prog_6_method_11_code
def yX4_belongsAbove : MethodName := ⟨RX4, "belongsAbove", "(II)Z"⟩
abbrev cX4_recount : ByteArray := prog_6_method_12_code
def yX4_recount : MethodName := ⟨RX4, "recount", "(I)V"⟩
abbrev cX4_recountUpwards : ByteArray := prog_6_method_13_code
def yX4_recountUpwards : MethodName := ⟨RX4, "recountUpwards", "(I)V"⟩
abbrev cX4_replaceChild : ByteArray := prog_6_method_14_code
def yX4_replaceChild : MethodName := ⟨RX4, "replaceChild", "(III)V"⟩
abbrev cX4_rotate : ByteArray := prog_6_method_15_code
def yX4_rotate : MethodName := ⟨RX4, "rotate", "(I)V"⟩
abbrev cX4_upperChild : ByteArray := prog_6_method_16_code
def yX4_upperChild : MethodName := ⟨RX4, "upperChild", "(I)I"⟩
abbrev cX4_rotateUp : ByteArray := prog_6_method_17_code
def yX4_rotateUp : MethodName := ⟨RX4, "rotateUp", "(I)I"⟩
abbrev cX4_rotateDown : ByteArray := prog_6_method_18_code
def yX4_rotateDown : MethodName := ⟨RX4, "rotateDown", "(IZ)I"⟩
abbrev cX4_freeSlot : ByteArray := prog_6_method_19_code
def yX4_freeSlot : MethodName := ⟨RX4, "freeSlot", "()I"⟩
abbrev cX4_attach : ByteArray := prog_6_method_20_code
def yX4_attach : MethodName := ⟨RX4, "attach", "(II)I"⟩
abbrev cX4_detach : ByteArray := prog_6_method_21_code
def yX4_detach : MethodName := ⟨RX4, "detach", "(I)V"⟩
abbrev cX4_putPriority : ByteArray := prog_6_method_22_code
def yX4_putPriority : MethodName := ⟨RX4, "putPriority", "(II)V"⟩
abbrev cX4_removeRange : ByteArray := prog_6_method_23_code
def yX4_removeRange : MethodName := ⟨RX4, "removeRange", "(II)I"⟩
abbrev cX4_slotOf : ByteArray := prog_6_method_24_code
def yX4_slotOf : MethodName := ⟨RX4, "slotOf", "(I)I"⟩
abbrev cX4_floorSlot : ByteArray := prog_6_method_25_code
def yX4_floorSlot : MethodName := ⟨RX4, "floorSlot", "(I)I"⟩
abbrev cX4_ceilingSlot : ByteArray := prog_6_method_26_code
def yX4_ceilingSlot : MethodName := ⟨RX4, "ceilingSlot", "(I)I"⟩
abbrev cX4_countBelow : ByteArray := prog_6_method_27_code
def yX4_countBelow : MethodName := ⟨RX4, "countBelow", "(I)I"⟩
abbrev cX4_countBetween : ByteArray := prog_6_method_28_code
def yX4_countBetween : MethodName := ⟨RX4, "countBetween", "(II)I"⟩
abbrev cX4_slotAtPosition : ByteArray := prog_6_method_29_code
def yX4_slotAtPosition : MethodName := ⟨RX4, "slotAtPosition", "(I)I"⟩
abbrev cX4_topSlot : ByteArray := prog_6_method_30_code
def yX4_topSlot : MethodName := ⟨RX4, "topSlot", "(II)I"⟩
abbrev cX4_searchAbove : ByteArray := prog_6_method_31_code
def yX4_searchAbove : MethodName := ⟨RX4, "searchAbove", "(III)I"⟩
abbrev cX4_searchAboveFrom : ByteArray := prog_6_method_32_code
def yX4_searchAboveFrom : MethodName := ⟨RX4, "searchAboveFrom", "(LPrioritySearchTree$Tree;IIIII)I"⟩
abbrev cX4_isInRange : ByteArray := prog_6_method_33_code
def yX4_isInRange : MethodName := ⟨RX4, "isInRange", "(III)Z"⟩
abbrev cX4_scanAbove : ByteArray := prog_6_method_34_code
def yX4_scanAbove : MethodName := ⟨RX4, "scanAbove", "(III)I"⟩
abbrev cX4_scanTop : ByteArray := prog_6_method_35_code
def yX4_scanTop : MethodName := ⟨RX4, "scanTop", "(II)I"⟩
abbrev cX4_sumBetween : ByteArray := prog_6_method_36_code
def yX4_sumBetween : MethodName := ⟨RX4, "sumBetween", "(II)J"⟩
abbrev cX4_countAhead : ByteArray := prog_6_method_37_code
def yX4_countAhead : MethodName := ⟨RX4, "countAhead", "(I)I"⟩
abbrev cX4_slotByPriority : ByteArray := prog_6_method_38_code
def yX4_slotByPriority : MethodName := ⟨RX4, "slotByPriority", "(I)I"⟩
abbrev cX4_depthIn : ByteArray := prog_6_method_39_code
def yX4_depthIn : MethodName := ⟨RX4, "depthIn", "(I)I"⟩
abbrev cX4_greatestDepth : ByteArray := prog_6_method_40_code
def yX4_greatestDepth : MethodName := ⟨RX4, "greatestDepth", "()I"⟩
abbrev cX4_sumOfDepths : ByteArray := prog_6_method_41_code
def yX4_sumOfDepths : MethodName := ⟨RX4, "sumOfDepths", "()I"⟩
abbrev cX4_countLeaves : ByteArray := prog_6_method_42_code
def yX4_countLeaves : MethodName := ⟨RX4, "countLeaves", "()I"⟩
abbrev cX4_isSound : ByteArray := prog_6_method_43_code
def yX4_isSound : MethodName := ⟨RX4, "isSound", "()Z"⟩
abbrev cX4_isSoundFrom : ByteArray := prog_6_method_44_code
def yX4_isSoundFrom : MethodName := ⟨RX4, "isSoundFrom", "(LPrioritySearchTree$Tree;IIII)Z"⟩
abbrev cX4_bothWaysAgree : ByteArray := prog_6_method_45_code
def yX4_bothWaysAgree : MethodName := ⟨RX4, "bothWaysAgree", "()Z"⟩
def RX5 : String := "PrioritySearchTree$Windows"
def TX5 : u_T := fun k => match k with
  | 0 => ("PrioritySearchTree$Windows", "lows", "[I", true)
  | 1 => ("PrioritySearchTree$Windows", "highs", "[I", true)
  | 2 => ("PrioritySearchTree$Windows", "priorities", "[I", true)
  | _ => ("PrioritySearchTree$Windows", "limits", "[I", true)
def tyX5 : Nat → FieldType := fun k => match k with
  | 0 => .array .int
  | 1 => .array .int
  | 2 => .array .int
  | _ => .array .int
abbrev wsX50 : List Cond := u_ws RX5 TX5 4
theorem nmX5 : ∀ a, a < 4 → ∀ b, b < 4 → a ≠ b → (TX5 a).2.1 ≠ (TX5 b).2.1 := by decide +kernel
theorem tyX5_ok : ∀ k, k < 4 → parseFieldDescriptor (TX5 k).2.2.1 = some (tyX5 k) := by decide +kernel
abbrev cX5_init : ByteArray := prog_7_method_1_code
def yX5_init : MethodName := ⟨RX5, "<init>", "()V"⟩
abbrev cX5_copyFrom : ByteArray := prog_7_method_2_code
def yX5_copyFrom : MethodName := ⟨RX5, "copyFrom", "(LPrioritySearchTree$Windows;)V"⟩
abbrev cX5_open : ByteArray := prog_7_method_3_code
def yX5_open : MethodName := ⟨RX5, "open", "(IIIII)V"⟩
abbrev cX5_close : ByteArray := prog_7_method_4_code
def yX5_close : MethodName := ⟨RX5, "close", "(I)V"⟩
abbrev cX5_isOpen : ByteArray := prog_7_method_5_code
def yX5_isOpen : MethodName := ⟨RX5, "isOpen", "(I)Z"⟩
abbrev cX5_limitIn : ByteArray := prog_7_method_6_code
def yX5_limitIn : MethodName := ⟨RX5, "limitIn", "(I)I"⟩
abbrev cX5_covers : ByteArray := prog_7_method_7_code
def yX5_covers : MethodName := ⟨RX5, "covers", "(III)Z"⟩
def RX6 : String := "PrioritySearchTree"
def TX6 : u_T := fun k => match k with
  | 0 => ("PrioritySearchTree", "now", "LPrioritySearchTree$Data;", true)
  | 1 => ("PrioritySearchTree", "draft", "LPrioritySearchTree$Data;", true)
  | 2 => ("PrioritySearchTree", "snapshot", "LPrioritySearchTree$Data;", true)
  | 3 => ("PrioritySearchTree", "snapshotSaved", "Z", false)
  | 4 => ("PrioritySearchTree", "history", "LPrioritySearchTree$History;", true)
  | 5 => ("PrioritySearchTree", "commands", "LPrioritySearchTree$Commands;", true)
  | 6 => ("PrioritySearchTree", "output", "LPrioritySearchTree$Output;", true)
  | 7 => ("PrioritySearchTree", "latestOffset", "I", false)
  | 8 => ("PrioritySearchTree", "latestReason", "I", false)
  | 9 => ("PrioritySearchTree", "latestDetail", "I", false)
  | _ => ("PrioritySearchTree", "latestCause", "I", false)
def tyX6 : Nat → FieldType := fun k => match k with
  | 0 => .object "PrioritySearchTree$Data"
  | 1 => .object "PrioritySearchTree$Data"
  | 2 => .object "PrioritySearchTree$Data"
  | 3 => .boolean
  | 4 => .object "PrioritySearchTree$History"
  | 5 => .object "PrioritySearchTree$Commands"
  | 6 => .object "PrioritySearchTree$Output"
  | 7 => .int
  | 8 => .int
  | 9 => .int
  | _ => .int
abbrev wsX60 : List Cond := u_ws RX6 TX6 11
theorem nmX6 : ∀ a, a < 11 → ∀ b, b < 11 → a ≠ b → (TX6 a).2.1 ≠ (TX6 b).2.1 := by decide +kernel
theorem tyX6_ok : ∀ k, k < 11 → parseFieldDescriptor (TX6 k).2.2.1 = some (tyX6 k) := by decide +kernel
abbrev cX6_init : ByteArray := prog_1_method_1_code
def yX6_init : MethodName := ⟨RX6, "<init>", "()V"⟩
abbrev cX6_insert : ByteArray := prog_1_method_2_code
def yX6_insert : MethodName := ⟨RX6, "insert", "(II)I"⟩
abbrev cX6_delete : ByteArray := prog_1_method_3_code
def yX6_delete : MethodName := ⟨RX6, "delete", "(I)I"⟩
abbrev cX6_changePriority : ByteArray := prog_1_method_4_code
def yX6_changePriority : MethodName := ⟨RX6, "changePriority", "(II)I"⟩
abbrev cX6_moveKey : ByteArray := prog_1_method_5_code
def yX6_moveKey : MethodName := ⟨RX6, "moveKey", "(II)I"⟩
abbrev cX6_deleteRange : ByteArray := prog_1_method_6_code
def yX6_deleteRange : MethodName := ⟨RX6, "deleteRange", "(II)I"⟩
abbrev cX6_size : ByteArray := prog_1_method_7_code
def yX6_size : MethodName := ⟨RX6, "size", "()I"⟩
abbrev cX6_contains : ByteArray := prog_1_method_8_code
def yX6_contains : MethodName := ⟨RX6, "contains", "(I)Z"⟩
abbrev cX6_priorityOf : ByteArray := prog_1_method_9_code
def yX6_priorityOf : MethodName := ⟨RX6, "priorityOf", "(I)I"⟩
abbrev cX6_floorKey : ByteArray := prog_1_method_12_code
def yX6_floorKey : MethodName := ⟨RX6, "floorKey", "(I)I"⟩
abbrev cX6_ceilingKey : ByteArray := prog_1_method_13_code
def yX6_ceilingKey : MethodName := ⟨RX6, "ceilingKey", "(I)I"⟩
abbrev cX6_nearestKey : ByteArray := prog_1_method_14_code
def yX6_nearestKey : MethodName := ⟨RX6, "nearestKey", "(I)I"⟩
abbrev cX6_rankOf : ByteArray := prog_1_method_15_code
def yX6_rankOf : MethodName := ⟨RX6, "rankOf", "(I)I"⟩
abbrev cX6_keyAt : ByteArray := prog_1_method_16_code
def yX6_keyAt : MethodName := ⟨RX6, "keyAt", "(I)I"⟩
abbrev cX6_keyByPriority : ByteArray := prog_1_method_17_code
def yX6_keyByPriority : MethodName := ⟨RX6, "keyByPriority", "(I)I"⟩
abbrev cX6_root : ByteArray := prog_1_method_18_code
def yX6_root : MethodName := ⟨RX6, "root", "()I"⟩
abbrev cX6_hasLeft : ByteArray := prog_1_method_19_code
def yX6_hasLeft : MethodName := ⟨RX6, "hasLeft", "(I)Z"⟩
abbrev cX6_hasRight : ByteArray := prog_1_method_20_code
def yX6_hasRight : MethodName := ⟨RX6, "hasRight", "(I)Z"⟩
abbrev cX6_leftOf : ByteArray := prog_1_method_21_code
def yX6_leftOf : MethodName := ⟨RX6, "leftOf", "(I)I"⟩
abbrev cX6_rightOf : ByteArray := prog_1_method_22_code
def yX6_rightOf : MethodName := ⟨RX6, "rightOf", "(I)I"⟩
abbrev cX6_parentOf : ByteArray := prog_1_method_23_code
def yX6_parentOf : MethodName := ⟨RX6, "parentOf", "(I)I"⟩
abbrev cX6_depthOf : ByteArray := prog_1_method_24_code
def yX6_depthOf : MethodName := ⟨RX6, "depthOf", "(I)I"⟩
abbrev cX6_subtreeSize : ByteArray := prog_1_method_25_code
def yX6_subtreeSize : MethodName := ⟨RX6, "subtreeSize", "(I)I"⟩
abbrev cX6_imbalanceOf : ByteArray := prog_1_method_26_code
def yX6_imbalanceOf : MethodName := ⟨RX6, "imbalanceOf", "(I)I"⟩
abbrev cX6_height : ByteArray := prog_1_method_27_code
def yX6_height : MethodName := ⟨RX6, "height", "()I"⟩
abbrev cX6_leafCount : ByteArray := prog_1_method_28_code
def yX6_leafCount : MethodName := ⟨RX6, "leafCount", "()I"⟩
abbrev cX6_commonAncestor : ByteArray := prog_1_method_29_code
def yX6_commonAncestor : MethodName := ⟨RX6, "commonAncestor", "(II)I"⟩
abbrev cX6_distance : ByteArray := prog_1_method_30_code
def yX6_distance : MethodName := ⟨RX6, "distance", "(II)I"⟩
abbrev cX6_countInRange : ByteArray := prog_1_method_31_code
def yX6_countInRange : MethodName := ⟨RX6, "countInRange", "(II)I"⟩
abbrev cX6_countInRangeByScan : ByteArray := prog_1_method_32_code
def yX6_countInRangeByScan : MethodName := ⟨RX6, "countInRangeByScan", "(II)I"⟩
abbrev cX6_topInRange : ByteArray := prog_1_method_33_code
def yX6_topInRange : MethodName := ⟨RX6, "topInRange", "(II)I"⟩
abbrev cX6_topInRangeByScan : ByteArray := prog_1_method_34_code
def yX6_topInRangeByScan : MethodName := ⟨RX6, "topInRangeByScan", "(II)I"⟩
abbrev cX6_countAbove : ByteArray := prog_1_method_35_code
def yX6_countAbove : MethodName := ⟨RX6, "countAbove", "(III)I"⟩
abbrev cX6_countAboveByScan : ByteArray := prog_1_method_36_code
def yX6_countAboveByScan : MethodName := ⟨RX6, "countAboveByScan", "(III)I"⟩
abbrev cX6_sumInRange : ByteArray := prog_1_method_37_code
def yX6_sumInRange : MethodName := ⟨RX6, "sumInRange", "(II)J"⟩
abbrev cX6_setWindow : ByteArray := prog_1_method_38_code
def yX6_setWindow : MethodName := ⟨RX6, "setWindow", "(IIIII)I"⟩
abbrev cX6_removeWindow : ByteArray := prog_1_method_39_code
def yX6_removeWindow : MethodName := ⟨RX6, "removeWindow", "(I)I"⟩
abbrev cX6_isWindowSet : ByteArray := prog_1_method_40_code
def yX6_isWindowSet : MethodName := ⟨RX6, "isWindowSet", "(I)Z"⟩
abbrev cX6_pointsInWindow : ByteArray := prog_1_method_41_code
def yX6_pointsInWindow : MethodName := ⟨RX6, "pointsInWindow", "(I)I"⟩
abbrev cX6_roomInWindow : ByteArray := prog_1_method_42_code
def yX6_roomInWindow : MethodName := ⟨RX6, "roomInWindow", "(I)I"⟩
abbrev cX6_windowKeyAt : ByteArray := prog_1_method_43_code
def yX6_windowKeyAt : MethodName := ⟨RX6, "windowKeyAt", "(II)I"⟩
abbrev cX6_meanDepth : ByteArray := prog_1_method_46_code
def yX6_meanDepth : MethodName := ⟨RX6, "meanDepth", "()D"⟩
abbrev cX6_leafShare : ByteArray := prog_1_method_47_code
def yX6_leafShare : MethodName := ⟨RX6, "leafShare", "()F"⟩
abbrev cX6_isConsistent : ByteArray := prog_1_method_48_code
def yX6_isConsistent : MethodName := ⟨RX6, "isConsistent", "()Z"⟩
abbrev cX6_writeTree : ByteArray := prog_1_method_49_code
def yX6_writeTree : MethodName := ⟨RX6, "writeTree", "()I"⟩
abbrev cX6_writeWindow : ByteArray := prog_1_method_50_code
def yX6_writeWindow : MethodName := ⟨RX6, "writeWindow", "(I)I"⟩
abbrev cX6_outputAt : ByteArray := prog_1_method_51_code
def yX6_outputAt : MethodName := ⟨RX6, "outputAt", "(I)C"⟩
abbrev cX6_rejectionReason : ByteArray := prog_1_method_55_code
def yX6_rejectionReason : MethodName := ⟨RX6, "rejectionReason", "()I"⟩
abbrev cX6_isNumber : ByteArray := prog_1_method_61_code
def yX6_isNumber : MethodName := ⟨RX6, "isNumber", "(I)Z"⟩
abbrev cX6_isWindow : ByteArray := prog_1_method_62_code
def yX6_isWindow : MethodName := ⟨RX6, "isWindow", "(I)Z"⟩
abbrev cX6_isLimit : ByteArray := prog_1_method_63_code
def yX6_isLimit : MethodName := ⟨RX6, "isLimit", "(I)Z"⟩
abbrev cX6_requireNumber : ByteArray := prog_1_method_64_code
def yX6_requireNumber : MethodName := ⟨RX6, "requireNumber", "(I)V"⟩
abbrev cX6_requireRange : ByteArray := prog_1_method_65_code
def yX6_requireRange : MethodName := ⟨RX6, "requireRange", "(II)V"⟩
abbrev cX6_requireWindow : ByteArray := prog_1_method_66_code
def yX6_requireWindow : MethodName := ⟨RX6, "requireWindow", "(I)V"⟩
abbrev cX6_requireOpenWindow : ByteArray := prog_1_method_67_code
def yX6_requireOpenWindow : MethodName := ⟨RX6, "requireOpenWindow", "(I)V"⟩
abbrev cX6_requirePoint : ByteArray := prog_1_method_68_code
def yX6_requirePoint : MethodName := ⟨RX6, "requirePoint", "(I)I"⟩
abbrev cX6_keyInFound : ByteArray := prog_1_method_69_code
def yX6_keyInFound : MethodName := ⟨RX6, "keyInFound", "(I)I"⟩
abbrev cX6_requireRejection : ByteArray := prog_1_method_70_code
def yX6_requireRejection : MethodName := ⟨RX6, "requireRejection", "()V"⟩
abbrev cX6_reject : ByteArray := prog_1_method_71_code
def yX6_reject : MethodName := ⟨RX6, "reject", "(II)V"⟩
abbrev cX6_writeSubtree : ByteArray := prog_1_method_72_code
def yX6_writeSubtree : MethodName := ⟨RX6, "writeSubtree", "(LPrioritySearchTree$Tree;ILPrioritySearchTree$Output;I)V"⟩
abbrev cX6_at : ByteArray := prog_1_method_76_code
def yX6_at : MethodName := ⟨RX6, "at", "([II)I"⟩
abbrev cX6_put : ByteArray := prog_1_method_77_code
def yX6_put : MethodName := ⟨RX6, "put", "([III)V"⟩
abbrev cX6_copyRow : ByteArray := prog_1_method_78_code
def yX6_copyRow : MethodName := ⟨RX6, "copyRow", "([I[I)V"⟩
def RX7 : String := "PrioritySearchTreeModel"
def TX7 : u_T := fun k => match k with
  | _ => ("", "", "", false)
def tyX7 : Nat → FieldType := fun k => match k with
  | _ => .int
abbrev wsX70 : List Cond := u_ws RX7 TX7 0
theorem nmX7 : ∀ a, a < 0 → ∀ b, b < 0 → a ≠ b → (TX7 a).2.1 ≠ (TX7 b).2.1 := by decide +kernel
theorem tyX7_ok : ∀ k, k < 0 → parseFieldDescriptor (TX7 k).2.2.1 = some (tyX7 k) := by decide +kernel
def RJx145de : String := "java/io/Serializable"
def TJx145de : u_T := fun k => match k with
  | _ => ("", "", "", false)
def tyJx145de : Nat → FieldType := fun k => match k with
  | _ => .int
abbrev wsJx145de0 : List Cond := u_ws RJx145de TJx145de 0
theorem nmJx145de : ∀ a, a < 0 → ∀ b, b < 0 → a ≠ b → (TJx145de a).2.1 ≠ (TJx145de b).2.1 := by decide +kernel
theorem tyJx145de_ok : ∀ k, k < 0 → parseFieldDescriptor (TJx145de k).2.2.1 = some (tyJx145de k) := by decide +kernel
def RJ5 : String := "java/lang/AbstractStringBuilder"
def TJ5 : u_T := fun k => match k with
  | _ => ("", "", "", false)
def tyJ5 : Nat → FieldType := fun k => match k with
  | _ => .int
abbrev wsJ50 : List Cond := u_ws RJ5 TJ5 0
theorem nmJ5 : ∀ a, a < 0 → ∀ b, b < 0 → a ≠ b → (TJ5 a).2.1 ≠ (TJ5 b).2.1 := by decide +kernel
theorem tyJ5_ok : ∀ k, k < 0 → parseFieldDescriptor (TJ5 k).2.2.1 = some (tyJ5 k) := by decide +kernel
abbrev cJ5_init_d00df : ByteArray := prog_11_method_2_code
def yJ5_init_d00df : MethodName := ⟨RJ5, "<init>", "(I)V"⟩
abbrev cJ5_length_8abf5 : ByteArray := prog_11_method_6_code
def yJ5_length_8abf5 : MethodName := ⟨RJ5, "length", "()I"⟩
abbrev cJ5_ensureCapacityInternal_d00df : ByteArray := prog_11_method_9_code
def yJ5_ensureCapacityInternal_d00df : MethodName := ⟨RJ5, "ensureCapacityInternal", "(I)V"⟩
abbrev cJ5_newCapacity_0f7a4 : ByteArray := prog_11_method_10_code
def yJ5_newCapacity_0f7a4 : MethodName := ⟨RJ5, "newCapacity", "(I)I"⟩
abbrev cJ5_inflate_da8c8 : ByteArray := prog_11_method_11_code
def yJ5_inflate_da8c8 : MethodName := ⟨RJ5, "inflate", "()V"⟩
abbrev cJ5_append_cf1ce : ByteArray := prog_11_method_22_code
def yJ5_append_cf1ce : MethodName := ⟨RJ5, "append", "(Ljava/lang/String;)Ljava/lang/AbstractStringBuilder;"⟩
abbrev cJ5_appendNull_278bc : ByteArray := prog_11_method_26_code
def yJ5_appendNull_278bc : MethodName := ⟨RJ5, "appendNull", "()Ljava/lang/AbstractStringBuilder;"⟩
abbrev cJ5_append_c97b9 : ByteArray := prog_11_method_32_code
def yJ5_append_c97b9 : MethodName := ⟨RJ5, "append", "(I)Ljava/lang/AbstractStringBuilder;"⟩
abbrev cJ5_getValue_6d5f1 : ByteArray := prog_11_method_64_code
def yJ5_getValue_6d5f1 : MethodName := ⟨RJ5, "getValue", "()[B"⟩
abbrev cJ5_isLatin1_aae02 : ByteArray := prog_11_method_68_code
def yJ5_isLatin1_aae02 : MethodName := ⟨RJ5, "isLatin1", "()Z"⟩
abbrev cJ5_inflateIfNeededFor_a7421 : ByteArray := prog_11_method_71_code
def yJ5_inflateIfNeededFor_a7421 : MethodName := ⟨RJ5, "inflateIfNeededFor", "(Ljava/lang/String;)V"⟩
abbrev cJ5_putStringAt_47b60 : ByteArray := prog_11_method_73_code
def yJ5_putStringAt_47b60 : MethodName := ⟨RJ5, "putStringAt", "(ILjava/lang/String;)V"⟩
def RJx2cfe8 : String := "java/lang/Appendable"
def TJx2cfe8 : u_T := fun k => match k with
  | _ => ("", "", "", false)
def tyJx2cfe8 : Nat → FieldType := fun k => match k with
  | _ => .int
abbrev wsJx2cfe80 : List Cond := u_ws RJx2cfe8 TJx2cfe8 0
theorem nmJx2cfe8 : ∀ a, a < 0 → ∀ b, b < 0 → a ≠ b → (TJx2cfe8 a).2.1 ≠ (TJx2cfe8 b).2.1 := by decide +kernel
theorem tyJx2cfe8_ok : ∀ k, k < 0 → parseFieldDescriptor (TJx2cfe8 k).2.2.1 = some (tyJx2cfe8 k) := by decide +kernel
def RJx00060 : String := "java/lang/ArrayIndexOutOfBoundsException"
def TJx00060 : u_T := fun k => match k with
  | 0 => ("java/lang/Throwable", "backtrace", "Ljava/lang/Object;", false)
  | 1 => ("java/lang/Throwable", "detailMessage", "Ljava/lang/String;", false)
  | 2 => ("java/lang/Throwable", "cause", "Ljava/lang/Throwable;", false)
  | 3 => ("java/lang/Throwable", "stackTrace", "[Ljava/lang/StackTraceElement;", false)
  | 4 => ("java/lang/Throwable", "depth", "I", false)
  | _ => ("java/lang/Throwable", "suppressedExceptions", "Ljava/util/List;", false)
def tyJx00060 : Nat → FieldType := fun k => match k with
  | 0 => .object "java/lang/Object"
  | 1 => .object "java/lang/String"
  | 2 => .object "java/lang/Throwable"
  | 3 => .array (.object "java/lang/StackTraceElement")
  | 4 => .int
  | _ => .object "java/util/List"
abbrev wsJx000600 : List Cond := u_ws RJx00060 TJx00060 6
theorem nmJx00060 : ∀ a, a < 6 → ∀ b, b < 6 → a ≠ b → (TJx00060 a).2.1 ≠ (TJx00060 b).2.1 := by decide +kernel
theorem tyJx00060_ok : ∀ k, k < 6 → parseFieldDescriptor (TJx00060 k).2.2.1 = some (tyJx00060 k) := by decide +kernel
abbrev cJx00060_init_a7421 : ByteArray := prog_14_method_2_code
def yJx00060_init_a7421 : MethodName := ⟨RJx00060, "<init>", "(Ljava/lang/String;)V"⟩
def RJx9f9b0 : String := "java/lang/CharSequence"
def TJx9f9b0 : u_T := fun k => match k with
  | _ => ("", "", "", false)
def tyJx9f9b0 : Nat → FieldType := fun k => match k with
  | _ => .int
abbrev wsJx9f9b00 : List Cond := u_ws RJx9f9b0 TJx9f9b0 0
theorem nmJx9f9b0 : ∀ a, a < 0 → ∀ b, b < 0 → a ≠ b → (TJx9f9b0 a).2.1 ≠ (TJx9f9b0 b).2.1 := by decide +kernel
theorem tyJx9f9b0_ok : ∀ k, k < 0 → parseFieldDescriptor (TJx9f9b0 k).2.2.1 = some (tyJx9f9b0 k) := by decide +kernel
def RJx8e188 : String := "java/lang/Cloneable"
def TJx8e188 : u_T := fun k => match k with
  | _ => ("", "", "", false)
def tyJx8e188 : Nat → FieldType := fun k => match k with
  | _ => .int
abbrev wsJx8e1880 : List Cond := u_ws RJx8e188 TJx8e188 0
theorem nmJx8e188 : ∀ a, a < 0 → ∀ b, b < 0 → a ≠ b → (TJx8e188 a).2.1 ≠ (TJx8e188 b).2.1 := by decide +kernel
theorem tyJx8e188_ok : ∀ k, k < 0 → parseFieldDescriptor (TJx8e188 k).2.2.1 = some (tyJx8e188 k) := by decide +kernel
def RJxb160c : String := "java/lang/Comparable"
def TJxb160c : u_T := fun k => match k with
  | _ => ("", "", "", false)
def tyJxb160c : Nat → FieldType := fun k => match k with
  | _ => .int
abbrev wsJxb160c0 : List Cond := u_ws RJxb160c TJxb160c 0
theorem nmJxb160c : ∀ a, a < 0 → ∀ b, b < 0 → a ≠ b → (TJxb160c a).2.1 ≠ (TJxb160c b).2.1 := by decide +kernel
theorem tyJxb160c_ok : ∀ k, k < 0 → parseFieldDescriptor (TJxb160c k).2.2.1 = some (tyJxb160c k) := by decide +kernel
def RJ6 : String := "java/lang/Integer"
def TJ6 : u_T := fun k => match k with
  | _ => ("", "", "", false)
def tyJ6 : Nat → FieldType := fun k => match k with
  | _ => .int
abbrev wsJ60 : List Cond := u_ws RJ6 TJ6 0
theorem nmJ6 : ∀ a, a < 0 → ∀ b, b < 0 → a ≠ b → (TJ6 a).2.1 ≠ (TJ6 b).2.1 := by decide +kernel
theorem tyJ6_ok : ∀ k, k < 0 → parseFieldDescriptor (TJ6 k).2.2.1 = some (tyJ6 k) := by decide +kernel
abbrev cJ6_getChars_ba4f3 : ByteArray := prog_21_method_12_code
def yJ6_getChars_ba4f3 : MethodName := ⟨RJ6, "getChars", "(II[B)I"⟩
abbrev cJ6_stringSize_0f7a4 : ByteArray := prog_21_method_13_code
def yJ6_stringSize_0f7a4 : MethodName := ⟨RJ6, "stringSize", "(I)I"⟩
def RJ9 : String := "java/lang/Math"
def TJ9 : u_T := fun k => match k with
  | _ => ("", "", "", false)
def tyJ9 : Nat → FieldType := fun k => match k with
  | _ => .int
abbrev wsJ90 : List Cond := u_ws RJ9 TJ9 0
theorem nmJ9 : ∀ a, a < 0 → ∀ b, b < 0 → a ≠ b → (TJ9 a).2.1 ≠ (TJ9 b).2.1 := by decide +kernel
theorem tyJ9_ok : ∀ k, k < 0 → parseFieldDescriptor (TJ9 k).2.2.1 = some (tyJ9 k) := by decide +kernel
abbrev cJ9_max_7cf53 : ByteArray := prog_22_method_65_code
def yJ9_max_7cf53 : MethodName := ⟨RJ9, "max", "(II)I"⟩
abbrev cJ9_min_7cf53 : ByteArray := prog_22_method_69_code
def yJ9_min_7cf53 : MethodName := ⟨RJ9, "min", "(II)I"⟩
def RJxd2413 : String := "java/lang/Number"
def TJxd2413 : u_T := fun k => match k with
  | _ => ("", "", "", false)
def tyJxd2413 : Nat → FieldType := fun k => match k with
  | _ => .int
abbrev wsJxd24130 : List Cond := u_ws RJxd2413 TJxd2413 0
theorem nmJxd2413 : ∀ a, a < 0 → ∀ b, b < 0 → a ≠ b → (TJxd2413 a).2.1 ≠ (TJxd2413 b).2.1 := by decide +kernel
theorem tyJxd2413_ok : ∀ k, k < 0 → parseFieldDescriptor (TJxd2413 k).2.2.1 = some (tyJxd2413 k) := by decide +kernel
def RJ0 : String := "java/lang/String"
def TJ0 : u_T := fun k => match k with
  | 0 => ("java/lang/String", "value", "[B", true)
  | 1 => ("java/lang/String", "coder", "B", true)
  | 2 => ("java/lang/String", "hash", "I", false)
  | _ => ("java/lang/String", "hashIsZero", "Z", false)
def tyJ0 : Nat → FieldType := fun k => match k with
  | 0 => .array .byte
  | 1 => .byte
  | 2 => .int
  | _ => .boolean
abbrev wsJ00 : List Cond := u_ws RJ0 TJ0 4
theorem nmJ0 : ∀ a, a < 4 → ∀ b, b < 4 → a ≠ b → (TJ0 a).2.1 ≠ (TJ0 b).2.1 := by decide +kernel
theorem tyJ0_ok : ∀ k, k < 4 → parseFieldDescriptor (TJ0 k).2.2.1 = some (tyJ0 k) := by decide +kernel
abbrev cJ0_init_81219 : ByteArray := prog_25_method_53_code
def yJ0_init_81219 : MethodName := ⟨RJ0, "<init>", "(Ljava/lang/StringBuilder;)V"⟩
abbrev cJ0_length_8abf5 : ByteArray := prog_25_method_54_code
def yJ0_length_8abf5 : MethodName := ⟨RJ0, "length", "()I"⟩
abbrev cJ0_charAt_5068e : ByteArray := prog_25_method_56_code
def yJ0_charAt_5068e : MethodName := ⟨RJ0, "charAt", "(I)C"⟩
abbrev cJ0_getBytes_840e7 : ByteArray := prog_25_method_147_code
def yJ0_getBytes_840e7 : MethodName := ⟨RJ0, "getBytes", "([BIB)V"⟩
abbrev cJ0_init_db425 : ByteArray := prog_25_method_150_code
def yJ0_init_db425 : MethodName := ⟨RJ0, "<init>", "(Ljava/lang/AbstractStringBuilder;Ljava/lang/Void;)V"⟩
abbrev cJ0_coder_7d493 : ByteArray := prog_25_method_152_code
def yJ0_coder_7d493 : MethodName := ⟨RJ0, "coder", "()B"⟩
abbrev cJ0_isLatin1_aae02 : ByteArray := prog_25_method_154_code
def yJ0_isLatin1_aae02 : MethodName := ⟨RJ0, "isLatin1", "()Z"⟩
abbrev cJ0_checkIndex_df160 : ByteArray := prog_25_method_155_code
def yJ0_checkIndex_df160 : MethodName := ⟨RJ0, "checkIndex", "(II)V"⟩
abbrev cJ0_checkBoundsOffCount_cabcc : ByteArray := prog_25_method_157_code
def yJ0_checkBoundsOffCount_cabcc : MethodName := ⟨RJ0, "checkBoundsOffCount", "(III)I"⟩
abbrev cJ0_checkBoundsBeginEnd_23922 : ByteArray := prog_25_method_158_code
def yJ0_checkBoundsBeginEnd_23922 : MethodName := ⟨RJ0, "checkBoundsBeginEnd", "(III)V"⟩
def RJ4 : String := "java/lang/StringBuilder"
def TJ4 : u_T := fun k => match k with
  | 0 => ("java/lang/AbstractStringBuilder", "value", "[B", false)
  | 1 => ("java/lang/AbstractStringBuilder", "coder", "B", false)
  | 2 => ("java/lang/AbstractStringBuilder", "maybeLatin1", "Z", false)
  | _ => ("java/lang/AbstractStringBuilder", "count", "I", false)
def tyJ4 : Nat → FieldType := fun k => match k with
  | 0 => .array .byte
  | 1 => .byte
  | 2 => .boolean
  | _ => .int
abbrev wsJ40 : List Cond := u_ws RJ4 TJ4 4
theorem nmJ4 : ∀ a, a < 4 → ∀ b, b < 4 → a ≠ b → (TJ4 a).2.1 ≠ (TJ4 b).2.1 := by decide +kernel
theorem tyJ4_ok : ∀ k, k < 4 → parseFieldDescriptor (TJ4 k).2.2.1 = some (tyJ4 k) := by decide +kernel
abbrev cJ4_init_da8c8 : ByteArray := prog_26_method_1_code
def yJ4_init_da8c8 : MethodName := ⟨RJ4, "<init>", "()V"⟩
abbrev cJ4_append_15ec4 : ByteArray := prog_26_method_7_code
def yJ4_append_15ec4 : MethodName := ⟨RJ4, "append", "(Ljava/lang/String;)Ljava/lang/StringBuilder;"⟩
abbrev cJ4_append_bf812 : ByteArray := prog_26_method_15_code
def yJ4_append_bf812 : MethodName := ⟨RJ4, "append", "(I)Ljava/lang/StringBuilder;"⟩
abbrev cJ4_toString_0e30d : ByteArray := prog_26_method_42_code
def yJ4_toString_0e30d : MethodName := ⟨RJ4, "toString", "()Ljava/lang/String;"⟩
abbrev cJ4_length_8abf5 : ByteArray := prog_26_method_93_code
def yJ4_length_8abf5 : MethodName := ⟨RJ4, "length", "()I"⟩
def RJ1 : String := "java/lang/StringLatin1"
def TJ1 : u_T := fun k => match k with
  | _ => ("", "", "", false)
def tyJ1 : Nat → FieldType := fun k => match k with
  | _ => .int
abbrev wsJ10 : List Cond := u_ws RJ1 TJ1 0
theorem nmJ1 : ∀ a, a < 0 → ∀ b, b < 0 → a ≠ b → (TJ1 a).2.1 ≠ (TJ1 b).2.1 := by decide +kernel
theorem tyJ1_ok : ∀ k, k < 0 → parseFieldDescriptor (TJ1 k).2.2.1 = some (tyJ1 k) := by decide +kernel
abbrev cJ1_charAt_3b067 : ByteArray := prog_27_method_2_code
def yJ1_charAt_3b067 : MethodName := ⟨RJ1, "charAt", "([BI)C"⟩
abbrev cJ1_inflate_0e8fd : ByteArray := prog_27_method_50_code
def yJ1_inflate_0e8fd : MethodName := ⟨RJ1, "inflate", "([BI[BII)V"⟩
def RJ2 : String := "java/lang/StringUTF16"
def TJ2 : u_T := fun k => match k with
  | _ => ("", "", "", false)
def tyJ2 : Nat → FieldType := fun k => match k with
  | _ => .int
abbrev wsJ20 : List Cond := u_ws RJ2 TJ2 0
theorem nmJ2 : ∀ a, a < 0 → ∀ b, b < 0 → a ≠ b → (TJ2 a).2.1 ≠ (TJ2 b).2.1 := by decide +kernel
theorem tyJ2_ok : ∀ k, k < 0 → parseFieldDescriptor (TJ2 k).2.2.1 = some (tyJ2 k) := by decide +kernel
abbrev cJ2_newBytesFor_77867 : ByteArray := prog_28_method_2_code
def yJ2_newBytesFor_77867 : MethodName := ⟨RJ2, "newBytesFor", "(I)[B"⟩
abbrev cJ2_newBytesLength_0f7a4 : ByteArray := prog_28_method_3_code
def yJ2_newBytesLength_0f7a4 : MethodName := ⟨RJ2, "newBytesLength", "(I)I"⟩
abbrev cJ2_putChar_b72d1 : ByteArray := prog_28_method_4_code
def yJ2_putChar_b72d1 : MethodName := ⟨RJ2, "putChar", "([BII)V"⟩
abbrev cJ2_getChar_3b067 : ByteArray := prog_28_method_5_code
def yJ2_getChar_3b067 : MethodName := ⟨RJ2, "getChar", "([BI)C"⟩
abbrev cJ2_length_9d52b : ByteArray := prog_28_method_6_code
def yJ2_length_9d52b : MethodName := ⟨RJ2, "length", "([B)I"⟩
abbrev cJ2_coderFromArrayLen_85cad : ByteArray := prog_28_method_15_code
def yJ2_coderFromArrayLen_85cad : MethodName := ⟨RJ2, "coderFromArrayLen", "([BI)B"⟩
abbrev cJ2_compress_39247 : ByteArray := prog_28_method_17_code
def yJ2_compress_39247 : MethodName := ⟨RJ2, "compress", "([BII)[B"⟩
abbrev cJ2_compress_5af95 : ByteArray := prog_28_method_22_code
def yJ2_compress_5af95 : MethodName := ⟨RJ2, "compress", "([BI[BII)I"⟩
abbrev cJ2_getChars_46870 : ByteArray := prog_28_method_77_code
def yJ2_getChars_46870 : MethodName := ⟨RJ2, "getChars", "(III[B)I"⟩
abbrev cJ2_putCharsAt_cd4e5 : ByteArray := prog_28_method_81_code
def yJ2_putCharsAt_cd4e5 : MethodName := ⟨RJ2, "putCharsAt", "([BICCCC)I"⟩
abbrev cJ2_charAt_3b067 : ByteArray := prog_28_method_83_code
def yJ2_charAt_3b067 : MethodName := ⟨RJ2, "charAt", "([BI)C"⟩
abbrev cJ2_inflate_0e8fd : ByteArray := prog_28_method_86_code
def yJ2_inflate_0e8fd : MethodName := ⟨RJ2, "inflate", "([BI[BII)V"⟩
abbrev cJ2_getChars_ba4f3 : ByteArray := prog_28_method_89_code
def yJ2_getChars_ba4f3 : MethodName := ⟨RJ2, "getChars", "(II[B)I"⟩
abbrev cJ2_checkIndex_2214a : ByteArray := prog_28_method_91_code
def yJ2_checkIndex_2214a : MethodName := ⟨RJ2, "checkIndex", "(I[B)V"⟩
abbrev cJ2_checkBoundsBeginEnd_d044e : ByteArray := prog_28_method_93_code
def yJ2_checkBoundsBeginEnd_d044e : MethodName := ⟨RJ2, "checkBoundsBeginEnd", "(II[B)V"⟩
abbrev cJ2_checkBoundsOffCount_d044e : ByteArray := prog_28_method_94_code
def yJ2_checkBoundsOffCount_d044e : MethodName := ⟨RJ2, "checkBoundsOffCount", "(II[B)V"⟩
def RJ10 : String := "java/lang/System"
def TJ10 : u_T := fun k => match k with
  | _ => ("", "", "", false)
def tyJ10 : Nat → FieldType := fun k => match k with
  | _ => .int
abbrev wsJ100 : List Cond := u_ws RJ10 TJ10 0
theorem nmJ10 : ∀ a, a < 0 → ∀ b, b < 0 → a ≠ b → (TJ10 a).2.1 ≠ (TJ10 b).2.1 := by decide +kernel
theorem tyJ10_ok : ∀ k, k < 0 → parseFieldDescriptor (TJ10 k).2.2.1 = some (tyJ10 k) := by decide +kernel
def RJxfd54e : String := "java/lang/constant/Constable"
def TJxfd54e : u_T := fun k => match k with
  | _ => ("", "", "", false)
def tyJxfd54e : Nat → FieldType := fun k => match k with
  | _ => .int
abbrev wsJxfd54e0 : List Cond := u_ws RJxfd54e TJxfd54e 0
theorem nmJxfd54e : ∀ a, a < 0 → ∀ b, b < 0 → a ≠ b → (TJxfd54e a).2.1 ≠ (TJxfd54e b).2.1 := by decide +kernel
theorem tyJxfd54e_ok : ∀ k, k < 0 → parseFieldDescriptor (TJxfd54e k).2.2.1 = some (tyJxfd54e k) := by decide +kernel
def RJx3cf43 : String := "java/lang/constant/ConstantDesc"
def TJx3cf43 : u_T := fun k => match k with
  | _ => ("", "", "", false)
def tyJx3cf43 : Nat → FieldType := fun k => match k with
  | _ => .int
abbrev wsJx3cf430 : List Cond := u_ws RJx3cf43 TJx3cf43 0
theorem nmJx3cf43 : ∀ a, a < 0 → ∀ b, b < 0 → a ≠ b → (TJx3cf43 a).2.1 ≠ (TJx3cf43 b).2.1 := by decide +kernel
theorem tyJx3cf43_ok : ∀ k, k < 0 → parseFieldDescriptor (TJx3cf43 k).2.2.1 = some (tyJx3cf43 k) := by decide +kernel
def RJ7 : String := "java/util/Arrays"
def TJ7 : u_T := fun k => match k with
  | _ => ("", "", "", false)
def tyJ7 : Nat → FieldType := fun k => match k with
  | _ => .int
abbrev wsJ70 : List Cond := u_ws RJ7 TJ7 0
theorem nmJ7 : ∀ a, a < 0 → ∀ b, b < 0 → a ≠ b → (TJ7 a).2.1 ≠ (TJ7 b).2.1 := by decide +kernel
theorem tyJ7_ok : ∀ k, k < 0 → parseFieldDescriptor (TJ7 k).2.2.1 = some (tyJ7 k) := by decide +kernel
abbrev cJ7_copyOf_9075b : ByteArray := prog_34_method_121_code
def yJ7_copyOf_9075b : MethodName := ⟨RJ7, "copyOf", "([BI)[B"⟩
abbrev cJ7_checkLength_df160 : ByteArray := prog_34_method_131_code
def yJ7_checkLength_df160 : MethodName := ⟨RJ7, "checkLength", "(II)V"⟩
abbrev cJ7_copyOfRange_39247 : ByteArray := prog_34_method_132_code
def yJ7_copyOfRange_39247 : MethodName := ⟨RJ7, "copyOfRange", "([BII)[B"⟩
abbrev cJ7_copyOfRangeByte_39247 : ByteArray := prog_34_method_133_code
def yJ7_copyOfRangeByte_39247 : MethodName := ⟨RJ7, "copyOfRangeByte", "([BII)[B"⟩
def RJ8 : String := "jdk/internal/util/ArraysSupport"
def TJ8 : u_T := fun k => match k with
  | _ => ("", "", "", false)
def tyJ8 : Nat → FieldType := fun k => match k with
  | _ => .int
abbrev wsJ80 : List Cond := u_ws RJ8 TJ8 0
theorem nmJ8 : ∀ a, a < 0 → ∀ b, b < 0 → a ≠ b → (TJ8 a).2.1 ≠ (TJ8 b).2.1 := by decide +kernel
theorem tyJ8_ok : ∀ k, k < 0 → parseFieldDescriptor (TJ8 k).2.2.1 = some (tyJ8 k) := by decide +kernel
abbrev cJ8_newLength_cabcc : ByteArray := prog_36_method_27_code
def yJ8_newLength_cabcc : MethodName := ⟨RJ8, "newLength", "(III)I"⟩
abbrev cJ8_hugeLength_7cf53 : ByteArray := prog_36_method_28_code
def yJ8_hugeLength_7cf53 : MethodName := ⟨RJ8, "hugeLength", "(II)I"⟩
def RJ3 : String := "jdk/internal/util/Preconditions"
def TJ3 : u_T := fun k => match k with
  | _ => ("", "", "", false)
def tyJ3 : Nat → FieldType := fun k => match k with
  | _ => .int
abbrev wsJ30 : List Cond := u_ws RJ3 TJ3 0
theorem nmJ3 : ∀ a, a < 0 → ∀ b, b < 0 → a ≠ b → (TJ3 a).2.1 ≠ (TJ3 b).2.1 := by decide +kernel
theorem tyJ3_ok : ∀ k, k < 0 → parseFieldDescriptor (TJ3 k).2.2.1 = some (tyJ3 k) := by decide +kernel
abbrev cJ3_checkIndex_8e157 : ByteArray := prog_37_method_11_code
def yJ3_checkIndex_8e157 : MethodName := ⟨RJ3, "checkIndex", "(IILjava/util/function/BiFunction;)I"⟩
abbrev cJ3_checkFromToIndex_8c36e : ByteArray := prog_37_method_12_code
def yJ3_checkFromToIndex_8c36e : MethodName := ⟨RJ3, "checkFromToIndex", "(IIILjava/util/function/BiFunction;)I"⟩
abbrev cJ3_checkFromIndexSize_8c36e : ByteArray := prog_37_method_13_code
def yJ3_checkFromIndexSize_8c36e : MethodName := ⟨RJ3, "checkFromIndexSize", "(IIILjava/util/function/BiFunction;)I"⟩
def RL : String := "PrioritySearchTreeLaw"
abbrev cL_cell : ByteArray := method_2_code
def yL_cell : MethodName := ⟨RL, "cell", "([II)I"⟩
abbrev cL_some : ByteArray := method_3_code
def yL_some : MethodName := ⟨RL, "some", "([III)I"⟩
abbrev cL_insert : ByteArray := method_4_code
def yL_insert : MethodName := ⟨RL, "insert", "(LPrioritySearchTree;II)I"⟩
abbrev cL_delete : ByteArray := method_5_code
def yL_delete : MethodName := ⟨RL, "delete", "(LPrioritySearchTree;I)I"⟩
abbrev cL_changePriority : ByteArray := method_6_code
def yL_changePriority : MethodName := ⟨RL, "changePriority", "(LPrioritySearchTree;II)I"⟩
abbrev cL_moveKey : ByteArray := method_7_code
def yL_moveKey : MethodName := ⟨RL, "moveKey", "(LPrioritySearchTree;II)I"⟩
abbrev cL_deleteRange : ByteArray := method_8_code
def yL_deleteRange : MethodName := ⟨RL, "deleteRange", "(LPrioritySearchTree;II)I"⟩
abbrev cL_setWindow : ByteArray := method_9_code
def yL_setWindow : MethodName := ⟨RL, "setWindow", "(LPrioritySearchTree;IIIII)I"⟩
abbrev cL_removeWindow : ByteArray := method_10_code
def yL_removeWindow : MethodName := ⟨RL, "removeWindow", "(LPrioritySearchTree;I)I"⟩
abbrev cL_pointsInWindow : ByteArray := method_11_code
def yL_pointsInWindow : MethodName := ⟨RL, "pointsInWindow", "(LPrioritySearchTree;I)I"⟩
abbrev cL_windowKeyAt : ByteArray := method_12_code
def yL_windowKeyAt : MethodName := ⟨RL, "windowKeyAt", "(LPrioritySearchTree;II)I"⟩
abbrev cL_floorKey : ByteArray := method_13_code
def yL_floorKey : MethodName := ⟨RL, "floorKey", "(LPrioritySearchTree;I)I"⟩
abbrev cL_ceilingKey : ByteArray := method_14_code
def yL_ceilingKey : MethodName := ⟨RL, "ceilingKey", "(LPrioritySearchTree;I)I"⟩
abbrev cL_nearestKey : ByteArray := method_15_code
def yL_nearestKey : MethodName := ⟨RL, "nearestKey", "(LPrioritySearchTree;I)I"⟩
abbrev cL_keyAt : ByteArray := method_16_code
def yL_keyAt : MethodName := ⟨RL, "keyAt", "(LPrioritySearchTree;I)I"⟩
abbrev cL_keyByPriority : ByteArray := method_17_code
def yL_keyByPriority : MethodName := ⟨RL, "keyByPriority", "(LPrioritySearchTree;I)I"⟩
abbrev cL_root : ByteArray := method_18_code
def yL_root : MethodName := ⟨RL, "root", "(LPrioritySearchTree;)I"⟩
abbrev cL_leftOf : ByteArray := method_19_code
def yL_leftOf : MethodName := ⟨RL, "leftOf", "(LPrioritySearchTree;I)I"⟩
abbrev cL_rightOf : ByteArray := method_20_code
def yL_rightOf : MethodName := ⟨RL, "rightOf", "(LPrioritySearchTree;I)I"⟩
abbrev cL_parentOf : ByteArray := method_21_code
def yL_parentOf : MethodName := ⟨RL, "parentOf", "(LPrioritySearchTree;I)I"⟩
abbrev cL_topInRange : ByteArray := method_22_code
def yL_topInRange : MethodName := ⟨RL, "topInRange", "(LPrioritySearchTree;II)I"⟩
abbrev cL_topInRangeByScan : ByteArray := method_23_code
def yL_topInRangeByScan : MethodName := ⟨RL, "topInRangeByScan", "(LPrioritySearchTree;II)I"⟩
abbrev cL_build : ByteArray := method_24_code
def yL_build : MethodName := ⟨RL, "build", "(LPrioritySearchTree;[I)V"⟩
abbrev cL_acts : ByteArray := method_25_code
def yL_acts : MethodName := ⟨RL, "acts", "(LPrioritySearchTree;[II)V"⟩
abbrev cL_isAbove : ByteArray := method_26_code
def yL_isAbove : MethodName := ⟨RL, "isAbove", "(LPrioritySearchTree;II)Z"⟩
abbrev cL_isLine : ByteArray := method_27_code
def yL_isLine : MethodName := ⟨RL, "isLine", "(LPrioritySearchTree;ILjava/lang/String;)Z"⟩
abbrev cL_written : ByteArray := method_28_code
def yL_written : MethodName := ⟨RL, "written", "(LPrioritySearchTree;I)Ljava/lang/String;"⟩
abbrev cL_law : ByteArray := code
def yL_law : MethodName := ⟨RL, "law", "([I)Z"⟩
