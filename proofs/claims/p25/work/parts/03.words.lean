/-! ===== BEGIN printed: names, fields, word lists, decode rows ===== -/
def RX0 : String := "FlexibleBoxes$Box"
def TX0 : u_T := fun k => match k with
  | 0 => ("FlexibleBoxes$Box", "number", "I", true)
  | 1 => ("FlexibleBoxes$Box", "style", "[I", true)
  | 2 => ("FlexibleBoxes$Box", "exists", "Z", false)
  | 3 => ("FlexibleBoxes$Box", "parent", "LFlexibleBoxes$Box;", false)
  | 4 => ("FlexibleBoxes$Box", "container", "Z", false)
  | 5 => ("FlexibleBoxes$Box", "shown", "Z", false)
  | 6 => ("FlexibleBoxes$Box", "firstKid", "LFlexibleBoxes$Box;", false)
  | 7 => ("FlexibleBoxes$Box", "nextKid", "LFlexibleBoxes$Box;", false)
  | 8 => ("FlexibleBoxes$Box", "kids", "I", false)
  | 9 => ("FlexibleBoxes$Box", "heir", "LFlexibleBoxes$Box;", false)
  | 10 => ("FlexibleBoxes$Box", "naturalWidth", "I", false)
  | 11 => ("FlexibleBoxes$Box", "naturalHeight", "I", false)
  | 12 => ("FlexibleBoxes$Box", "x", "I", false)
  | 13 => ("FlexibleBoxes$Box", "y", "I", false)
  | 14 => ("FlexibleBoxes$Box", "width", "I", false)
  | 15 => ("FlexibleBoxes$Box", "height", "I", false)
  | 16 => ("FlexibleBoxes$Box", "lineCount", "I", false)
  | _ => ("FlexibleBoxes$Box", "line", "I", false)
def tyX0 : Nat → FieldType := fun k => match k with
  | 0 => .int
  | 1 => .array .int
  | 2 => .boolean
  | 3 => .object "FlexibleBoxes$Box"
  | 4 => .boolean
  | 5 => .boolean
  | 6 => .object "FlexibleBoxes$Box"
  | 7 => .object "FlexibleBoxes$Box"
  | 8 => .int
  | 9 => .object "FlexibleBoxes$Box"
  | 10 => .int
  | 11 => .int
  | 12 => .int
  | 13 => .int
  | 14 => .int
  | 15 => .int
  | 16 => .int
  | _ => .int
abbrev wsX00 : List Cond := u_ws RX0 TX0 18
theorem nmX0 : ∀ a, a < 18 → ∀ b, b < 18 → a ≠ b → (TX0 a).2.1 ≠ (TX0 b).2.1 := by decide +kernel
theorem tyX0_ok : ∀ k, k < 18 → parseFieldDescriptor (TX0 k).2.2.1 = some (tyX0 k) := by decide +kernel
abbrev cX0_init : ByteArray := prog_2_method_1_code
def yX0_init : MethodName := ⟨RX0, "<init>", "(I)V"⟩
abbrev cX0_begin : ByteArray := prog_2_method_2_code
def yX0_begin : MethodName := ⟨RX0, "begin", "(LFlexibleBoxes$Box;)V"⟩
abbrev cX0_of : ByteArray := prog_2_method_3_code
def yX0_of : MethodName := ⟨RX0, "of", "(I)I"⟩
abbrev cX0_change : ByteArray := prog_2_method_4_code
def yX0_change : MethodName := ⟨RX0, "change", "(II)I"⟩
abbrev cX0_isRoot : ByteArray := prog_2_method_5_code
def yX0_isRoot : MethodName := ⟨RX0, "isRoot", "()Z"⟩
abbrev cX0_isColumn : ByteArray := prog_2_method_7_code
def yX0_isColumn : MethodName := ⟨RX0, "isColumn", "()Z"⟩
abbrev cX0_wraps : ByteArray := prog_2_method_8_code
def yX0_wraps : MethodName := ⟨RX0, "wraps", "()Z"⟩
abbrev cX0_unlink : ByteArray := prog_2_method_9_code
def yX0_unlink : MethodName := ⟨RX0, "unlink", "()V"⟩
abbrev cX0_adopt : ByteArray := prog_2_method_10_code
def yX0_adopt : MethodName := ⟨RX0, "adopt", "(LFlexibleBoxes$Box;)V"⟩
abbrev cX0_innerWidth : ByteArray := prog_2_method_11_code
def yX0_innerWidth : MethodName := ⟨RX0, "innerWidth", "()I"⟩
abbrev cX0_innerHeight : ByteArray := prog_2_method_12_code
def yX0_innerHeight : MethodName := ⟨RX0, "innerHeight", "()I"⟩
abbrev cX0_margins : ByteArray := prog_2_method_13_code
def yX0_margins : MethodName := ⟨RX0, "margins", "()I"⟩
abbrev cX0_limitWidth : ByteArray := prog_2_method_14_code
def yX0_limitWidth : MethodName := ⟨RX0, "limitWidth", "(I)I"⟩
abbrev cX0_limitHeight : ByteArray := prog_2_method_15_code
def yX0_limitHeight : MethodName := ⟨RX0, "limitHeight", "(I)I"⟩
abbrev cX0_fixedSize : ByteArray := prog_2_method_16_code
def yX0_fixedSize : MethodName := ⟨RX0, "fixedSize", "(I)I"⟩
abbrev cX0_alignment : ByteArray := prog_2_method_17_code
def yX0_alignment : MethodName := ⟨RX0, "alignment", "()I"⟩
abbrev cX0_textLines : ByteArray := prog_2_method_18_code
def yX0_textLines : MethodName := ⟨RX0, "textLines", "()I"⟩
abbrev cX0_covers : ByteArray := prog_2_method_19_code
def yX0_covers : MethodName := ⟨RX0, "covers", "(II)Z"⟩
def RX1 : String := "FlexibleBoxes$Flex"
def TX1 : u_T := fun k => match k with
  | 0 => ("FlexibleBoxes$Flex", "bases", "[I", true)
  | 1 => ("FlexibleBoxes$Flex", "leasts", "[I", true)
  | 2 => ("FlexibleBoxes$Flex", "greatests", "[I", true)
  | 3 => ("FlexibleBoxes$Flex", "grows", "[I", true)
  | 4 => ("FlexibleBoxes$Flex", "shrinks", "[I", true)
  | 5 => ("FlexibleBoxes$Flex", "factors", "[I", true)
  | 6 => ("FlexibleBoxes$Flex", "sizes", "[I", true)
  | 7 => ("FlexibleBoxes$Flex", "deviations", "[I", true)
  | 8 => ("FlexibleBoxes$Flex", "settled", "[Z", true)
  | 9 => ("FlexibleBoxes$Flex", "count", "I", false)
  | _ => ("FlexibleBoxes$Flex", "margins", "I", false)
def tyX1 : Nat → FieldType := fun k => match k with
  | 0 => .array .int
  | 1 => .array .int
  | 2 => .array .int
  | 3 => .array .int
  | 4 => .array .int
  | 5 => .array .int
  | 6 => .array .int
  | 7 => .array .int
  | 8 => .array .boolean
  | 9 => .int
  | _ => .int
abbrev wsX10 : List Cond := u_ws RX1 TX1 11
theorem nmX1 : ∀ a, a < 11 → ∀ b, b < 11 → a ≠ b → (TX1 a).2.1 ≠ (TX1 b).2.1 := by decide +kernel
theorem tyX1_ok : ∀ k, k < 11 → parseFieldDescriptor (TX1 k).2.2.1 = some (tyX1 k) := by decide +kernel
abbrev cX1_init : ByteArray := prog_3_method_1_code
def yX1_init : MethodName := ⟨RX1, "<init>", "()V"⟩
abbrev cX1_clear : ByteArray := prog_3_method_2_code
def yX1_clear : MethodName := ⟨RX1, "clear", "()V"⟩
abbrev cX1_put : ByteArray := prog_3_method_3_code
def yX1_put : MethodName := ⟨RX1, "put", "(LFlexibleBoxes$Box;Z)V"⟩
abbrev cX1_baseOf : ByteArray := prog_3_method_4_code
def yX1_baseOf : MethodName := ⟨RX1, "baseOf", "(LFlexibleBoxes$Box;Z)I"⟩
abbrev cX1_sizeAt : ByteArray := prog_3_method_5_code
def yX1_sizeAt : MethodName := ⟨RX1, "sizeAt", "(I)I"⟩
abbrev cX1_share : ByteArray := prog_3_method_6_code
def yX1_share : MethodName := ⟨RX1, "share", "(II)V"⟩
abbrev cX1_begin : ByteArray := prog_3_method_7_code
def yX1_begin : MethodName := ⟨RX1, "begin", "()I"⟩
abbrev cX1_restOf : ByteArray := prog_3_method_8_code
def yX1_restOf : MethodName := ⟨RX1, "restOf", "(I)I"⟩
abbrev cX1_openFactors : ByteArray := prog_3_method_9_code
def yX1_openFactors : MethodName := ⟨RX1, "openFactors", "()J"⟩
abbrev cX1_propose : ByteArray := prog_3_method_10_code
def yX1_propose : MethodName := ⟨RX1, "propose", "(JJZ)J"⟩
abbrev cX1_settle : ByteArray := prog_3_method_11_code
def yX1_settle : MethodName := ⟨RX1, "settle", "(J)V"⟩
def RX2 : String := "FlexibleBoxes$Layout"
def TX2 : u_T := fun k => match k with
  | 0 => ("FlexibleBoxes$Layout", "tree", "LFlexibleBoxes$Tree;", true)
  | 1 => ("FlexibleBoxes$Layout", "flex", "LFlexibleBoxes$Flex;", true)
  | _ => ("FlexibleBoxes$Layout", "stale", "Z", false)
def tyX2 : Nat → FieldType := fun k => match k with
  | 0 => .object "FlexibleBoxes$Tree"
  | 1 => .object "FlexibleBoxes$Flex"
  | _ => .boolean
abbrev wsX20 : List Cond := u_ws RX2 TX2 3
theorem nmX2 : ∀ a, a < 3 → ∀ b, b < 3 → a ≠ b → (TX2 a).2.1 ≠ (TX2 b).2.1 := by decide +kernel
theorem tyX2_ok : ∀ k, k < 3 → parseFieldDescriptor (TX2 k).2.2.1 = some (tyX2 k) := by decide +kernel
abbrev cX2_init : ByteArray := prog_4_method_1_code
def yX2_init : MethodName := ⟨RX2, "<init>", "(LFlexibleBoxes$Tree;)V"⟩
abbrev cX2_arrange : ByteArray := prog_4_method_2_code
def yX2_arrange : MethodName := ⟨RX2, "arrange", "()V"⟩
abbrev cX2_measureWidth : ByteArray := prog_4_method_3_code
def yX2_measureWidth : MethodName := ⟨RX2, "measureWidth", "(LFlexibleBoxes$Box;)V"⟩
abbrev cX2_contentWidth : ByteArray := prog_4_method_4_code
def yX2_contentWidth : MethodName := ⟨RX2, "contentWidth", "(LFlexibleBoxes$Box;)I"⟩
abbrev cX2_spreadWidths : ByteArray := prog_4_method_5_code
def yX2_spreadWidths : MethodName := ⟨RX2, "spreadWidths", "(LFlexibleBoxes$Box;)V"⟩
abbrev cX2_spreadColumn : ByteArray := prog_4_method_6_code
def yX2_spreadColumn : MethodName := ⟨RX2, "spreadColumn", "(LFlexibleBoxes$Box;)V"⟩
abbrev cX2_breakLines : ByteArray := prog_4_method_7_code
def yX2_breakLines : MethodName := ⟨RX2, "breakLines", "(LFlexibleBoxes$Box;)V"⟩
abbrev cX2_lineEnd : ByteArray := prog_4_method_8_code
def yX2_lineEnd : MethodName := ⟨RX2, "lineEnd", "(LFlexibleBoxes$Box;)LFlexibleBoxes$Box;"⟩
abbrev cX2_flexKids : ByteArray := prog_4_method_9_code
def yX2_flexKids : MethodName := ⟨RX2, "flexKids", "(LFlexibleBoxes$Box;LFlexibleBoxes$Box;ZII)V"⟩
abbrev cX2_measureHeight : ByteArray := prog_4_method_10_code
def yX2_measureHeight : MethodName := ⟨RX2, "measureHeight", "(LFlexibleBoxes$Box;)V"⟩
abbrev cX2_contentHeight : ByteArray := prog_4_method_11_code
def yX2_contentHeight : MethodName := ⟨RX2, "contentHeight", "(LFlexibleBoxes$Box;)I"⟩
abbrev cX2_lineHeight : ByteArray := prog_4_method_12_code
def yX2_lineHeight : MethodName := ⟨RX2, "lineHeight", "(LFlexibleBoxes$Box;LFlexibleBoxes$Box;)I"⟩
abbrev cX2_placeRow : ByteArray := prog_4_method_13_code
def yX2_placeRow : MethodName := ⟨RX2, "placeRow", "(LFlexibleBoxes$Box;)V"⟩
abbrev cX2_placeColumn : ByteArray := prog_4_method_14_code
def yX2_placeColumn : MethodName := ⟨RX2, "placeColumn", "(LFlexibleBoxes$Box;)V"⟩
abbrev cX2_placeLine : ByteArray := prog_4_method_15_code
def yX2_placeLine : MethodName := ⟨RX2, "placeLine", "(LFlexibleBoxes$Box;LFlexibleBoxes$Box;LFlexibleBoxes$Box;II)V"⟩
abbrev cX2_heightInLine : ByteArray := prog_4_method_16_code
def yX2_heightInLine : MethodName := ⟨RX2, "heightInLine", "(LFlexibleBoxes$Box;I)I"⟩
abbrev cX2_justifyShift : ByteArray := prog_4_method_17_code
def yX2_justifyShift : MethodName := ⟨RX2, "justifyShift", "(IIII)I"⟩
abbrev cX2_alignShift : ByteArray := prog_4_method_18_code
def yX2_alignShift : MethodName := ⟨RX2, "alignShift", "(II)I"⟩
abbrev cX2_kidsOverflow : ByteArray := prog_4_method_19_code
def yX2_kidsOverflow : MethodName := ⟨RX2, "kidsOverflow", "(LFlexibleBoxes$Box;)I"⟩
abbrev cX2_textOverflow : ByteArray := prog_4_method_20_code
def yX2_textOverflow : MethodName := ⟨RX2, "textOverflow", "(LFlexibleBoxes$Box;)I"⟩
abbrev cX2_topmostAt : ByteArray := prog_4_method_21_code
def yX2_topmostAt : MethodName := ⟨RX2, "topmostAt", "(II)I"⟩
abbrev cX2_paintedAfter : ByteArray := prog_4_method_22_code
def yX2_paintedAfter : MethodName := ⟨RX2, "paintedAfter", "(LFlexibleBoxes$Box;)LFlexibleBoxes$Box;"⟩
abbrev cX2_narrowestFor : ByteArray := prog_4_method_23_code
def yX2_narrowestFor : MethodName := ⟨RX2, "narrowestFor", "(LFlexibleBoxes$Box;I)I"⟩
abbrev cX2_linesVary : ByteArray := prog_4_method_24_code
def yX2_linesVary : MethodName := ⟨RX2, "linesVary", "(LFlexibleBoxes$Box;)Z"⟩
abbrev cX2_linesAt : ByteArray := prog_4_method_25_code
def yX2_linesAt : MethodName := ⟨RX2, "linesAt", "(LFlexibleBoxes$Box;I)I"⟩
def RX3 : String := "FlexibleBoxes$Snapshot"
def TX3 : u_T := fun k => match k with
  | _ => ("", "", "", false)
def tyX3 : Nat → FieldType := fun k => match k with
  | _ => .int
abbrev wsX30 : List Cond := u_ws RX3 TX3 0
theorem nmX3 : ∀ a, a < 0 → ∀ b, b < 0 → a ≠ b → (TX3 a).2.1 ≠ (TX3 b).2.1 := by decide +kernel
theorem tyX3_ok : ∀ k, k < 0 → parseFieldDescriptor (TX3 k).2.2.1 = some (tyX3 k) := by decide +kernel
def RX4 : String := "FlexibleBoxes$Tree"
def TX4 : u_T := fun k => match k with
  | 0 => ("FlexibleBoxes$Tree", "boxes", "[LFlexibleBoxes$Box;", true)
  | 1 => ("FlexibleBoxes$Tree", "root", "LFlexibleBoxes$Box;", true)
  | 2 => ("FlexibleBoxes$Tree", "given", "I", false)
  | 3 => ("FlexibleBoxes$Tree", "viewportWidth", "I", false)
  | _ => ("FlexibleBoxes$Tree", "viewportHeight", "I", false)
def tyX4 : Nat → FieldType := fun k => match k with
  | 0 => .array (.object "FlexibleBoxes$Box")
  | 1 => .object "FlexibleBoxes$Box"
  | 2 => .int
  | 3 => .int
  | _ => .int
abbrev wsX40 : List Cond := u_ws RX4 TX4 5
theorem nmX4 : ∀ a, a < 5 → ∀ b, b < 5 → a ≠ b → (TX4 a).2.1 ≠ (TX4 b).2.1 := by decide +kernel
theorem tyX4_ok : ∀ k, k < 5 → parseFieldDescriptor (TX4 k).2.2.1 = some (tyX4 k) := by decide +kernel
abbrev cX4_init : ByteArray := prog_6_method_1_code
def yX4_init : MethodName := ⟨RX4, "<init>", "()V"⟩
abbrev cX4_at : ByteArray := prog_6_method_2_code
def yX4_at : MethodName := ⟨RX4, "at", "(I)LFlexibleBoxes$Box;"⟩
abbrev cX4_shownAt : ByteArray := prog_6_method_3_code
def yX4_shownAt : MethodName := ⟨RX4, "shownAt", "(I)LFlexibleBoxes$Box;"⟩
abbrev cX4_isFull : ByteArray := prog_6_method_4_code
def yX4_isFull : MethodName := ⟨RX4, "isFull", "()Z"⟩
abbrev cX4_append : ByteArray := prog_6_method_5_code
def yX4_append : MethodName := ⟨RX4, "append", "(LFlexibleBoxes$Box;)I"⟩
abbrev cX4_link : ByteArray := prog_6_method_8_code
def yX4_link : MethodName := ⟨RX4, "link", "()V"⟩
def RX5 : String := "FlexibleBoxes"
def TX5 : u_T := fun k => match k with
  | 0 => ("FlexibleBoxes", "tree", "LFlexibleBoxes$Tree;", true)
  | 1 => ("FlexibleBoxes", "layout", "LFlexibleBoxes$Layout;", true)
  | _ => ("FlexibleBoxes", "slots", "[LFlexibleBoxes$Snapshot;", true)
def tyX5 : Nat → FieldType := fun k => match k with
  | 0 => .object "FlexibleBoxes$Tree"
  | 1 => .object "FlexibleBoxes$Layout"
  | _ => .array (.object "FlexibleBoxes$Snapshot")
abbrev wsX50 : List Cond := u_ws RX5 TX5 3
theorem nmX5 : ∀ a, a < 3 → ∀ b, b < 3 → a ≠ b → (TX5 a).2.1 ≠ (TX5 b).2.1 := by decide +kernel
theorem tyX5_ok : ∀ k, k < 3 → parseFieldDescriptor (TX5 k).2.2.1 = some (tyX5 k) := by decide +kernel
abbrev cX5_init : ByteArray := prog_1_method_1_code
def yX5_init : MethodName := ⟨RX5, "<init>", "()V"⟩
abbrev cX5_add : ByteArray := prog_1_method_2_code
def yX5_add : MethodName := ⟨RX5, "add", "(I)I"⟩
abbrev cX5_child : ByteArray := prog_1_method_6_code
def yX5_child : MethodName := ⟨RX5, "child", "(II)I"⟩
abbrev cX5_set : ByteArray := prog_1_method_7_code
def yX5_set : MethodName := ⟨RX5, "set", "(III)I"⟩
abbrev cX5_viewport : ByteArray := prog_1_method_10_code
def yX5_viewport : MethodName := ⟨RX5, "viewport", "(II)V"⟩
abbrev cX5_x : ByteArray := prog_1_method_11_code
def yX5_x : MethodName := ⟨RX5, "x", "(I)I"⟩
abbrev cX5_y : ByteArray := prog_1_method_12_code
def yX5_y : MethodName := ⟨RX5, "y", "(I)I"⟩
abbrev cX5_width : ByteArray := prog_1_method_13_code
def yX5_width : MethodName := ⟨RX5, "width", "(I)I"⟩
abbrev cX5_height : ByteArray := prog_1_method_14_code
def yX5_height : MethodName := ⟨RX5, "height", "(I)I"⟩
abbrev cX5_lines : ByteArray := prog_1_method_17_code
def yX5_lines : MethodName := ⟨RX5, "lines", "(I)I"⟩
abbrev cX5_lineOf : ByteArray := prog_1_method_18_code
def yX5_lineOf : MethodName := ⟨RX5, "lineOf", "(I)I"⟩
abbrev cX5_overflow : ByteArray := prog_1_method_19_code
def yX5_overflow : MethodName := ⟨RX5, "overflow", "(I)I"⟩
abbrev cX5_hit : ByteArray := prog_1_method_20_code
def yX5_hit : MethodName := ⟨RX5, "hit", "(II)I"⟩
abbrev cX5_widthFor : ByteArray := prog_1_method_21_code
def yX5_widthFor : MethodName := ⟨RX5, "widthFor", "(II)I"⟩
abbrev cX5_existing : ByteArray := prog_1_method_24_code
def yX5_existing : MethodName := ⟨RX5, "existing", "(I)LFlexibleBoxes$Box;"⟩
abbrev cX5_laidOut : ByteArray := prog_1_method_25_code
def yX5_laidOut : MethodName := ⟨RX5, "laidOut", "(LFlexibleBoxes$Box;)LFlexibleBoxes$Box;"⟩
abbrev cX5_isProperty : ByteArray := prog_1_method_26_code
def yX5_isProperty : MethodName := ⟨RX5, "isProperty", "(I)Z"⟩
abbrev cX5_isViewportLength : ByteArray := prog_1_method_27_code
def yX5_isViewportLength : MethodName := ⟨RX5, "isViewportLength", "(I)Z"⟩
abbrev cX5_limited : ByteArray := prog_1_method_28_code
def yX5_limited : MethodName := ⟨RX5, "limited", "(III)I"⟩
abbrev cX5_gaps : ByteArray := prog_1_method_29_code
def yX5_gaps : MethodName := ⟨RX5, "gaps", "(II)I"⟩
def RX6 : String := "FlexibleBoxesModel"
def TX6 : u_T := fun k => match k with
  | _ => ("", "", "", false)
def tyX6 : Nat → FieldType := fun k => match k with
  | _ => .int
abbrev wsX60 : List Cond := u_ws RX6 TX6 0
theorem nmX6 : ∀ a, a < 0 → ∀ b, b < 0 → a ≠ b → (TX6 a).2.1 ≠ (TX6 b).2.1 := by decide +kernel
theorem tyX6_ok : ∀ k, k < 0 → parseFieldDescriptor (TX6 k).2.2.1 = some (tyX6 k) := by decide +kernel
def RJ9 : String := "java/lang/Math"
def TJ9 : u_T := fun k => match k with
  | _ => ("", "", "", false)
def tyJ9 : Nat → FieldType := fun k => match k with
  | _ => .int
abbrev wsJ90 : List Cond := u_ws RJ9 TJ9 0
theorem nmJ9 : ∀ a, a < 0 → ∀ b, b < 0 → a ≠ b → (TJ9 a).2.1 ≠ (TJ9 b).2.1 := by decide +kernel
theorem tyJ9_ok : ∀ k, k < 0 → parseFieldDescriptor (TJ9 k).2.2.1 = some (tyJ9 k) := by decide +kernel
abbrev cJ9_max_7cf53 : ByteArray := prog_13_method_65_code
def yJ9_max_7cf53 : MethodName := ⟨RJ9, "max", "(II)I"⟩
abbrev cJ9_min_7cf53 : ByteArray := prog_13_method_69_code
def yJ9_min_7cf53 : MethodName := ⟨RJ9, "min", "(II)I"⟩
def RJ0 : String := "java/lang/String"
def TJ0 : u_T := fun k => match k with
  | _ => ("", "", "", false)
def tyJ0 : Nat → FieldType := fun k => match k with
  | _ => .int
abbrev wsJ00 : List Cond := u_ws RJ0 TJ0 0
theorem nmJ0 : ∀ a, a < 0 → ∀ b, b < 0 → a ≠ b → (TJ0 a).2.1 ≠ (TJ0 b).2.1 := by decide +kernel
theorem tyJ0_ok : ∀ k, k < 0 → parseFieldDescriptor (TJ0 k).2.2.1 = some (tyJ0 k) := by decide +kernel
def RL : String := "FlexibleBoxesLaw"
abbrev cL_cell : ByteArray := method_2_code
def yL_cell : MethodName := ⟨RL, "cell", "([III)I"⟩
abbrev cL_limit : ByteArray := method_3_code
def yL_limit : MethodName := ⟨RL, "limit", "(III)I"⟩
abbrev cL_law : ByteArray := code
def yL_law : MethodName := ⟨RL, "law", "([I)Z"⟩
abbrev vwCl : List vw_C := [(RX0, TX0, 18), (RX1, TX1, 11), (RX2, TX2, 3), (RX4, TX4, 5), (RX5, TX5, 3)]
/-- the words that every method takes: the good ones of the tables -/
def zU : List Cond := lw_tbl.filter goodWord
theorem zin1 {w : Cond} (h : w ∈ tables_1_1) (hg : goodWord w = true) : w ∈ zU := List.mem_filter.mpr ⟨List.mem_append_right _ (show w ∈ tables_1 from List.mem_append_left _ h), hg⟩
theorem zin2 {w : Cond} (h : w ∈ tables_1_2) (hg : goodWord w = true) : w ∈ zU := List.mem_filter.mpr ⟨List.mem_append_right _ (show w ∈ tables_1 from List.mem_append_right _ (List.mem_append_left _ h)), hg⟩
theorem zin3 {w : Cond} (h : w ∈ tables_1_3) (hg : goodWord w = true) : w ∈ zU := List.mem_filter.mpr ⟨List.mem_append_right _ (show w ∈ tables_1 from List.mem_append_right _ (List.mem_append_right _ (h))), hg⟩
theorem zin_t {w : Cond} (h : w ∈ zU) : w ∈ lw_tbl := (List.mem_filter.mp h).1
theorem zin_g {w : Cond} (h : w ∈ zU) : goodWord w = true := (List.mem_filter.mp h).2
theorem zs_X5_existing : Cond.selects RX5 yX5_existing yX5_existing ∈ zU := List.mem_filter.mpr ⟨List.mem_append_left _ (List.mem_map.mpr ⟨(⟨"FlexibleBoxes", "existing", "(I)LFlexibleBoxes$Box;"⟩, 3), (show _ ∈ lw_privs from (List.mem_of_getElem? (i := 0) rfl : (⟨"FlexibleBoxes", "existing", "(I)LFlexibleBoxes$Box;"⟩, 3) ∈ lw_privs_1)), rfl⟩), rfl⟩
theorem zs_X2_spreadWidths : Cond.selects RX2 yX2_spreadWidths yX2_spreadWidths ∈ zU := List.mem_filter.mpr ⟨List.mem_append_left _ (List.mem_map.mpr ⟨(⟨"FlexibleBoxes$Layout", "spreadWidths", "(LFlexibleBoxes$Box;)V"⟩, 3), (show _ ∈ lw_privs from (List.mem_of_getElem? (i := 2) rfl : (⟨"FlexibleBoxes$Layout", "spreadWidths", "(LFlexibleBoxes$Box;)V"⟩, 3) ∈ lw_privs_1)), rfl⟩), rfl⟩
theorem zs_X2_flexKids : Cond.selects RX2 yX2_flexKids yX2_flexKids ∈ zU := List.mem_filter.mpr ⟨List.mem_append_left _ (List.mem_map.mpr ⟨(⟨"FlexibleBoxes$Layout", "flexKids", "(LFlexibleBoxes$Box;LFlexibleBoxes$Box;ZII)V"⟩, 3), (show _ ∈ lw_privs from (List.mem_of_getElem? (i := 3) rfl : (⟨"FlexibleBoxes$Layout", "flexKids", "(LFlexibleBoxes$Box;LFlexibleBoxes$Box;ZII)V"⟩, 3) ∈ lw_privs_1)), rfl⟩), rfl⟩
theorem zs_X1_begin : Cond.selects RX1 yX1_begin yX1_begin ∈ zU := List.mem_filter.mpr ⟨List.mem_append_left _ (List.mem_map.mpr ⟨(⟨"FlexibleBoxes$Flex", "begin", "()I"⟩, 11), (show _ ∈ lw_privs from (List.mem_of_getElem? (i := 4) rfl : (⟨"FlexibleBoxes$Flex", "begin", "()I"⟩, 11) ∈ lw_privs_1)), rfl⟩), rfl⟩
theorem zs_X1_openFactors : Cond.selects RX1 yX1_openFactors yX1_openFactors ∈ zU := List.mem_filter.mpr ⟨List.mem_append_left _ (List.mem_map.mpr ⟨(⟨"FlexibleBoxes$Flex", "openFactors", "()J"⟩, 11), (show _ ∈ lw_privs from (List.mem_of_getElem? (i := 5) rfl : (⟨"FlexibleBoxes$Flex", "openFactors", "()J"⟩, 11) ∈ lw_privs_1)), rfl⟩), rfl⟩
theorem zs_X1_restOf : Cond.selects RX1 yX1_restOf yX1_restOf ∈ zU := List.mem_filter.mpr ⟨List.mem_append_left _ (List.mem_map.mpr ⟨(⟨"FlexibleBoxes$Flex", "restOf", "(I)I"⟩, 11), (show _ ∈ lw_privs from (List.mem_of_getElem? (i := 6) rfl : (⟨"FlexibleBoxes$Flex", "restOf", "(I)I"⟩, 11) ∈ lw_privs_1)), rfl⟩), rfl⟩
theorem zs_X1_propose : Cond.selects RX1 yX1_propose yX1_propose ∈ zU := List.mem_filter.mpr ⟨List.mem_append_left _ (List.mem_map.mpr ⟨(⟨"FlexibleBoxes$Flex", "propose", "(JJZ)J"⟩, 11), (show _ ∈ lw_privs from (List.mem_of_getElem? (i := 7) rfl : (⟨"FlexibleBoxes$Flex", "propose", "(JJZ)J"⟩, 11) ∈ lw_privs_1)), rfl⟩), rfl⟩
theorem zs_X1_settle : Cond.selects RX1 yX1_settle yX1_settle ∈ zU := List.mem_filter.mpr ⟨List.mem_append_left _ (List.mem_map.mpr ⟨(⟨"FlexibleBoxes$Flex", "settle", "(J)V"⟩, 11), (show _ ∈ lw_privs from (List.mem_of_getElem? (i := 8) rfl : (⟨"FlexibleBoxes$Flex", "settle", "(J)V"⟩, 11) ∈ lw_privs_1)), rfl⟩), rfl⟩
theorem zs_X2_placeColumn : Cond.selects RX2 yX2_placeColumn yX2_placeColumn ∈ zU := List.mem_filter.mpr ⟨List.mem_append_left _ (List.mem_map.mpr ⟨(⟨"FlexibleBoxes$Layout", "placeColumn", "(LFlexibleBoxes$Box;)V"⟩, 3), (show _ ∈ lw_privs from (List.mem_of_getElem? (i := 9) rfl : (⟨"FlexibleBoxes$Layout", "placeColumn", "(LFlexibleBoxes$Box;)V"⟩, 3) ∈ lw_privs_1)), rfl⟩), rfl⟩
theorem zs_X5_laidOut : Cond.selects RX5 yX5_laidOut yX5_laidOut ∈ zU := List.mem_filter.mpr ⟨List.mem_append_left _ (List.mem_map.mpr ⟨(⟨"FlexibleBoxes", "laidOut", "(LFlexibleBoxes$Box;)LFlexibleBoxes$Box;"⟩, 3), (show _ ∈ lw_privs from (List.mem_of_getElem? (i := 10) rfl : (⟨"FlexibleBoxes", "laidOut", "(LFlexibleBoxes$Box;)LFlexibleBoxes$Box;"⟩, 3) ∈ lw_privs_1)), rfl⟩), rfl⟩
theorem zs_X2_linesAt : Cond.selects RX2 yX2_linesAt yX2_linesAt ∈ zU := List.mem_filter.mpr ⟨List.mem_append_left _ (List.mem_map.mpr ⟨(⟨"FlexibleBoxes$Layout", "linesAt", "(LFlexibleBoxes$Box;I)I"⟩, 3), (show _ ∈ lw_privs from (List.mem_of_getElem? (i := 11) rfl : (⟨"FlexibleBoxes$Layout", "linesAt", "(LFlexibleBoxes$Box;I)I"⟩, 3) ∈ lw_privs_1)), rfl⟩), rfl⟩
theorem zm_1_0 : (Jvm.Cond.initialized "FlexibleBoxesLaw") ∈ zU := zin1 (List.mem_of_getElem? (i := 0) rfl) rfl
theorem zm_1_1 : (Jvm.Cond.initialized "FlexibleBoxes") ∈ zU := zin1 (List.mem_of_getElem? (i := 1) rfl) rfl
theorem zm_1_2 : (Jvm.Cond.initialized "FlexibleBoxes$Tree") ∈ zU := zin1 (List.mem_of_getElem? (i := 2) rfl) rfl
theorem zm_1_3 : (Jvm.Cond.initialized "FlexibleBoxes$Box") ∈ zU := zin1 (List.mem_of_getElem? (i := 3) rfl) rfl
theorem zm_1_4 : (Jvm.Cond.initialized "FlexibleBoxes$Layout") ∈ zU := zin1 (List.mem_of_getElem? (i := 4) rfl) rfl
theorem zm_1_5 : (Jvm.Cond.initialized "FlexibleBoxes$Flex") ∈ zU := zin1 (List.mem_of_getElem? (i := 5) rfl) rfl
theorem zm_1_6 : (Jvm.Cond.initialized "java/lang/Throwable") ∈ zU := zin1 (List.mem_of_getElem? (i := 6) rfl) rfl
theorem zm_1_7 : (Jvm.Cond.initialized "java/lang/Exception") ∈ zU := zin1 (List.mem_of_getElem? (i := 7) rfl) rfl
theorem zm_1_8 : (Jvm.Cond.initialized "java/lang/RuntimeException") ∈ zU := zin1 (List.mem_of_getElem? (i := 8) rfl) rfl
theorem zm_1_9 : (Jvm.Cond.initialized "java/lang/IllegalArgumentException") ∈ zU := zin1 (List.mem_of_getElem? (i := 9) rfl) rfl
theorem zm_1_10 : (Jvm.Cond.initialized "java/lang/IndexOutOfBoundsException") ∈ zU := zin1 (List.mem_of_getElem? (i := 10) rfl) rfl
theorem zm_1_11 : (Jvm.Cond.initialized "java/lang/IllegalStateException") ∈ zU := zin1 (List.mem_of_getElem? (i := 11) rfl) rfl
theorem zm_1_12 : (Jvm.Cond.initialized "java/lang/Math") ∈ zU := zin1 (List.mem_of_getElem? (i := 12) rfl) rfl
theorem zm_1_13 : (Jvm.Cond.classLink "FlexibleBoxesLaw" (8 : Nat) "FlexibleBoxes") ∈ zU := zin1 (List.mem_of_getElem? (i := 13) rfl) rfl
theorem zm_1_14 : (Jvm.Cond.instantiable "FlexibleBoxes" (3 : Nat)) ∈ zU := zin1 (List.mem_of_getElem? (i := 14) rfl) rfl
theorem zm_1_15 : (Jvm.Cond.methodLink "FlexibleBoxesLaw" (10 : Nat) ({ cls := "FlexibleBoxes", name := "<init>", desc := "()V" } : Jvm.MethodName)) ∈ zU := zin1 (List.mem_of_getElem? (i := 15) rfl) rfl
theorem zm_1_16 : (Jvm.Cond.instanceMethod ({ cls := "FlexibleBoxes", name := "<init>", desc := "()V" } : Jvm.MethodName)) ∈ zU := zin1 (List.mem_of_getElem? (i := 16) rfl) rfl
theorem zm_1_17 : (Jvm.Cond.code ({ cls := "FlexibleBoxes", name := "<init>", desc := "()V" } : Jvm.MethodName) prog_1_method_1_code (1 : Nat) (Option.none : Option Jvm.ClassFile.FieldType)) ∈ zU := zin1 (List.mem_of_getElem? (i := 17) rfl) rfl
theorem zm_1_18 : (Jvm.Cond.methodLink "FlexibleBoxes" (1 : Nat) ({ cls := "java/lang/Object", name := "<init>", desc := "()V" } : Jvm.MethodName)) ∈ zU := zin1 (List.mem_of_getElem? (i := 18) rfl) rfl
theorem zm_1_19 : (Jvm.Cond.instanceMethod ({ cls := "java/lang/Object", name := "<init>", desc := "()V" } : Jvm.MethodName)) ∈ zU := zin1 (List.mem_of_getElem? (i := 19) rfl) rfl
theorem zm_1_20 : (Jvm.Cond.code ({ cls := "java/lang/Object", name := "<init>", desc := "()V" } : Jvm.MethodName) object_method_1_code (1 : Nat) (Option.none : Option Jvm.ClassFile.FieldType)) ∈ zU := zin1 (List.mem_of_getElem? (i := 20) rfl) rfl
theorem zm_1_21 : (Jvm.Cond.classLink "FlexibleBoxes" (7 : Nat) "FlexibleBoxes$Tree") ∈ zU := zin1 (List.mem_of_getElem? (i := 21) rfl) rfl
theorem zm_1_22 : (Jvm.Cond.instantiable "FlexibleBoxes$Tree" (5 : Nat)) ∈ zU := zin1 (List.mem_of_getElem? (i := 22) rfl) rfl
theorem zm_1_23 : (Jvm.Cond.methodLink "FlexibleBoxes" (9 : Nat) ({ cls := "FlexibleBoxes$Tree", name := "<init>", desc := "()V" } : Jvm.MethodName)) ∈ zU := zin1 (List.mem_of_getElem? (i := 23) rfl) rfl
theorem zm_1_24 : (Jvm.Cond.instanceMethod ({ cls := "FlexibleBoxes$Tree", name := "<init>", desc := "()V" } : Jvm.MethodName)) ∈ zU := zin1 (List.mem_of_getElem? (i := 24) rfl) rfl
theorem zm_1_25 : (Jvm.Cond.code ({ cls := "FlexibleBoxes$Tree", name := "<init>", desc := "()V" } : Jvm.MethodName) prog_6_method_1_code (2 : Nat) (Option.none : Option Jvm.ClassFile.FieldType)) ∈ zU := zin1 (List.mem_of_getElem? (i := 25) rfl) rfl
theorem zm_1_26 : (Jvm.Cond.methodLink "FlexibleBoxes$Tree" (3 : Nat) ({ cls := "java/lang/Object", name := "<init>", desc := "()V" } : Jvm.MethodName)) ∈ zU := zin1 (List.mem_of_getElem? (i := 26) rfl) rfl
theorem zm_1_27 : (Jvm.Cond.classLink "FlexibleBoxes$Tree" (9 : Nat) "FlexibleBoxes$Box") ∈ zU := zin1 (List.mem_of_getElem? (i := 27) rfl) rfl
theorem zm_1_29 : (Jvm.Cond.instantiable "FlexibleBoxes$Box" (18 : Nat)) ∈ zU := zin1 (List.mem_of_getElem? (i := 29) rfl) rfl
theorem zm_1_30 : (Jvm.Cond.methodLink "FlexibleBoxes$Tree" (17 : Nat) ({ cls := "FlexibleBoxes$Box", name := "<init>", desc := "(I)V" } : Jvm.MethodName)) ∈ zU := zin1 (List.mem_of_getElem? (i := 30) rfl) rfl
theorem zm_1_31 : (Jvm.Cond.instanceMethod ({ cls := "FlexibleBoxes$Box", name := "<init>", desc := "(I)V" } : Jvm.MethodName)) ∈ zU := zin1 (List.mem_of_getElem? (i := 31) rfl) rfl
theorem zm_1_32 : (Jvm.Cond.code ({ cls := "FlexibleBoxes$Box", name := "<init>", desc := "(I)V" } : Jvm.MethodName) prog_2_method_1_code (2 : Nat) (Option.none : Option Jvm.ClassFile.FieldType)) ∈ zU := zin1 (List.mem_of_getElem? (i := 32) rfl) rfl
theorem zm_1_33 : (Jvm.Cond.methodLink "FlexibleBoxes$Box" (3 : Nat) ({ cls := "java/lang/Object", name := "<init>", desc := "()V" } : Jvm.MethodName)) ∈ zU := zin1 (List.mem_of_getElem? (i := 33) rfl) rfl
theorem zm_1_34 : (Jvm.Cond.fieldLink "FlexibleBoxes$Box" (15 : Nat) "FlexibleBoxes$Box" "number" "I") ∈ zU := zin1 (List.mem_of_getElem? (i := 34) rfl) rfl
theorem zm_1_35 : (Jvm.Cond.fieldLink "FlexibleBoxes$Tree" (49 : Nat) "FlexibleBoxes$Box" "number" "I") ∈ zU := zin1 (List.mem_of_getElem? (i := 35) rfl) rfl
theorem zm_1_36 : (Jvm.Cond.fieldLink "FlexibleBoxes" (85 : Nat) "FlexibleBoxes$Box" "number" "I") ∈ zU := zin1 (List.mem_of_getElem? (i := 36) rfl) rfl
theorem zm_1_37 : (Jvm.Cond.fieldLink "FlexibleBoxes$Layout" (210 : Nat) "FlexibleBoxes$Box" "number" "I") ∈ zU := zin1 (List.mem_of_getElem? (i := 37) rfl) rfl
theorem zm_1_38 : (Jvm.Cond.fieldLink "FlexibleBoxes$Box" (9 : Nat) "FlexibleBoxes$Box" "style" "[I") ∈ zU := zin1 (List.mem_of_getElem? (i := 38) rfl) rfl
theorem zm_1_39 : (Jvm.Cond.fieldLink "FlexibleBoxes$Box" (23 : Nat) "FlexibleBoxes$Box" "exists" "Z") ∈ zU := zin1 (List.mem_of_getElem? (i := 39) rfl) rfl
theorem zm_1_40 : (Jvm.Cond.fieldLink "FlexibleBoxes$Tree" (42 : Nat) "FlexibleBoxes$Box" "exists" "Z") ∈ zU := zin1 (List.mem_of_getElem? (i := 40) rfl) rfl
theorem zm_1_41 : (Jvm.Cond.fieldLink "FlexibleBoxes" (186 : Nat) "FlexibleBoxes$Box" "exists" "Z") ∈ zU := zin1 (List.mem_of_getElem? (i := 41) rfl) rfl
theorem zm_1_42 : (Jvm.Cond.fieldLink "FlexibleBoxes$Box" (19 : Nat) "FlexibleBoxes$Box" "parent" "LFlexibleBoxes$Box;") ∈ zU := zin1 (List.mem_of_getElem? (i := 42) rfl) rfl
theorem zm_1_43 : (Jvm.Cond.fieldLink "FlexibleBoxes$Tree" (52 : Nat) "FlexibleBoxes$Box" "parent" "LFlexibleBoxes$Box;") ∈ zU := zin1 (List.mem_of_getElem? (i := 43) rfl) rfl
theorem zm_1_44 : (Jvm.Cond.fieldLink "FlexibleBoxes$Layout" (216 : Nat) "FlexibleBoxes$Box" "parent" "LFlexibleBoxes$Box;") ∈ zU := zin1 (List.mem_of_getElem? (i := 44) rfl) rfl
theorem zm_1_45 : (Jvm.Cond.fieldLink "FlexibleBoxes$Layout" (91 : Nat) "FlexibleBoxes$Box" "container" "Z") ∈ zU := zin1 (List.mem_of_getElem? (i := 45) rfl) rfl
theorem zm_1_46 : (Jvm.Cond.fieldLink "FlexibleBoxes$Tree" (58 : Nat) "FlexibleBoxes$Box" "container" "Z") ∈ zU := zin1 (List.mem_of_getElem? (i := 46) rfl) rfl
theorem zm_1_47 : (Jvm.Cond.fieldLink "FlexibleBoxes$Box" (38 : Nat) "FlexibleBoxes$Box" "container" "Z") ∈ zU := zin1 (List.mem_of_getElem? (i := 47) rfl) rfl
theorem zm_1_48 : (Jvm.Cond.fieldLink "FlexibleBoxes" (153 : Nat) "FlexibleBoxes$Box" "container" "Z") ∈ zU := zin1 (List.mem_of_getElem? (i := 48) rfl) rfl
theorem zm_1_49 : (Jvm.Cond.fieldLink "FlexibleBoxes$Tree" (46 : Nat) "FlexibleBoxes$Box" "shown" "Z") ∈ zU := zin1 (List.mem_of_getElem? (i := 49) rfl) rfl
theorem zm_1_50 : (Jvm.Cond.fieldLink "FlexibleBoxes$Box" (41 : Nat) "FlexibleBoxes$Box" "shown" "Z") ∈ zU := zin1 (List.mem_of_getElem? (i := 50) rfl) rfl
theorem zm_1_51 : (Jvm.Cond.fieldLink "FlexibleBoxes" (194 : Nat) "FlexibleBoxes$Box" "shown" "Z") ∈ zU := zin1 (List.mem_of_getElem? (i := 51) rfl) rfl
theorem zm_1_52 : (Jvm.Cond.fieldLink "FlexibleBoxes$Layout" (101 : Nat) "FlexibleBoxes$Box" "firstKid" "LFlexibleBoxes$Box;") ∈ zU := zin1 (List.mem_of_getElem? (i := 52) rfl) rfl
theorem zm_1_53 : (Jvm.Cond.fieldLink "FlexibleBoxes" (81 : Nat) "FlexibleBoxes$Box" "firstKid" "LFlexibleBoxes$Box;") ∈ zU := zin1 (List.mem_of_getElem? (i := 53) rfl) rfl
theorem zm_1_54 : (Jvm.Cond.fieldLink "FlexibleBoxes$Box" (44 : Nat) "FlexibleBoxes$Box" "firstKid" "LFlexibleBoxes$Box;") ∈ zU := zin1 (List.mem_of_getElem? (i := 54) rfl) rfl
theorem zm_1_55 : (Jvm.Cond.fieldLink "FlexibleBoxes$Layout" (113 : Nat) "FlexibleBoxes$Box" "nextKid" "LFlexibleBoxes$Box;") ∈ zU := zin1 (List.mem_of_getElem? (i := 55) rfl) rfl
theorem zm_1_56 : (Jvm.Cond.fieldLink "FlexibleBoxes" (88 : Nat) "FlexibleBoxes$Box" "nextKid" "LFlexibleBoxes$Box;") ∈ zU := zin1 (List.mem_of_getElem? (i := 56) rfl) rfl
theorem zm_1_57 : (Jvm.Cond.fieldLink "FlexibleBoxes$Box" (47 : Nat) "FlexibleBoxes$Box" "nextKid" "LFlexibleBoxes$Box;") ∈ zU := zin1 (List.mem_of_getElem? (i := 57) rfl) rfl
theorem zm_1_58 : (Jvm.Cond.fieldLink "FlexibleBoxes$Layout" (94 : Nat) "FlexibleBoxes$Box" "kids" "I") ∈ zU := zin1 (List.mem_of_getElem? (i := 58) rfl) rfl
theorem zm_1_59 : (Jvm.Cond.fieldLink "FlexibleBoxes" (77 : Nat) "FlexibleBoxes$Box" "kids" "I") ∈ zU := zin1 (List.mem_of_getElem? (i := 59) rfl) rfl
theorem zm_1_60 : (Jvm.Cond.fieldLink "FlexibleBoxes$Box" (50 : Nat) "FlexibleBoxes$Box" "kids" "I") ∈ zU := zin1 (List.mem_of_getElem? (i := 60) rfl) rfl
theorem zm_1_61 : (Jvm.Cond.fieldLink "FlexibleBoxes$Layout" (223 : Nat) "FlexibleBoxes$Box" "heir" "LFlexibleBoxes$Box;") ∈ zU := zin1 (List.mem_of_getElem? (i := 61) rfl) rfl
theorem zm_1_62 : (Jvm.Cond.fieldLink "FlexibleBoxes$Layout" (88 : Nat) "FlexibleBoxes$Box" "naturalWidth" "I") ∈ zU := zin1 (List.mem_of_getElem? (i := 62) rfl) rfl
theorem zm_1_63 : (Jvm.Cond.fieldLink "FlexibleBoxes$Flex" (60 : Nat) "FlexibleBoxes$Box" "naturalWidth" "I") ∈ zU := zin1 (List.mem_of_getElem? (i := 63) rfl) rfl
theorem zm_1_64 : (Jvm.Cond.fieldLink "FlexibleBoxes$Flex" (63 : Nat) "FlexibleBoxes$Box" "naturalHeight" "I") ∈ zU := zin1 (List.mem_of_getElem? (i := 64) rfl) rfl
theorem zm_1_65 : (Jvm.Cond.fieldLink "FlexibleBoxes$Layout" (175 : Nat) "FlexibleBoxes$Box" "naturalHeight" "I") ∈ zU := zin1 (List.mem_of_getElem? (i := 65) rfl) rfl
theorem zm_1_66 : (Jvm.Cond.fieldLink "FlexibleBoxes" (129 : Nat) "FlexibleBoxes$Box" "x" "I") ∈ zU := zin1 (List.mem_of_getElem? (i := 66) rfl) rfl
theorem zm_1_67 : (Jvm.Cond.fieldLink "FlexibleBoxes$Layout" (192 : Nat) "FlexibleBoxes$Box" "x" "I") ∈ zU := zin1 (List.mem_of_getElem? (i := 67) rfl) rfl
theorem zm_1_68 : (Jvm.Cond.fieldLink "FlexibleBoxes$Box" (77 : Nat) "FlexibleBoxes$Box" "x" "I") ∈ zU := zin1 (List.mem_of_getElem? (i := 68) rfl) rfl
theorem zm_1_69 : (Jvm.Cond.fieldLink "FlexibleBoxes" (132 : Nat) "FlexibleBoxes$Box" "y" "I") ∈ zU := zin1 (List.mem_of_getElem? (i := 69) rfl) rfl
theorem zm_1_70 : (Jvm.Cond.fieldLink "FlexibleBoxes$Layout" (182 : Nat) "FlexibleBoxes$Box" "y" "I") ∈ zU := zin1 (List.mem_of_getElem? (i := 70) rfl) rfl
theorem zm_1_71 : (Jvm.Cond.fieldLink "FlexibleBoxes$Box" (80 : Nat) "FlexibleBoxes$Box" "y" "I") ∈ zU := zin1 (List.mem_of_getElem? (i := 71) rfl) rfl
theorem zm_1_72 : (Jvm.Cond.fieldLink "FlexibleBoxes$Layout" (47 : Nat) "FlexibleBoxes$Box" "width" "I") ∈ zU := zin1 (List.mem_of_getElem? (i := 72) rfl) rfl
theorem zm_1_73 : (Jvm.Cond.fieldLink "FlexibleBoxes$Box" (53 : Nat) "FlexibleBoxes$Box" "width" "I") ∈ zU := zin1 (List.mem_of_getElem? (i := 73) rfl) rfl
theorem zm_1_74 : (Jvm.Cond.fieldLink "FlexibleBoxes" (135 : Nat) "FlexibleBoxes$Box" "width" "I") ∈ zU := zin1 (List.mem_of_getElem? (i := 74) rfl) rfl
theorem zm_1_75 : (Jvm.Cond.fieldLink "FlexibleBoxes$Layout" (61 : Nat) "FlexibleBoxes$Box" "height" "I") ∈ zU := zin1 (List.mem_of_getElem? (i := 75) rfl) rfl
theorem zm_1_76 : (Jvm.Cond.fieldLink "FlexibleBoxes$Box" (62 : Nat) "FlexibleBoxes$Box" "height" "I") ∈ zU := zin1 (List.mem_of_getElem? (i := 76) rfl) rfl
theorem zm_1_77 : (Jvm.Cond.fieldLink "FlexibleBoxes" (138 : Nat) "FlexibleBoxes$Box" "height" "I") ∈ zU := zin1 (List.mem_of_getElem? (i := 77) rfl) rfl
theorem zm_1_78 : (Jvm.Cond.fieldLink "FlexibleBoxes$Layout" (122 : Nat) "FlexibleBoxes$Box" "lineCount" "I") ∈ zU := zin1 (List.mem_of_getElem? (i := 78) rfl) rfl
theorem zm_1_79 : (Jvm.Cond.fieldLink "FlexibleBoxes" (147 : Nat) "FlexibleBoxes$Box" "lineCount" "I") ∈ zU := zin1 (List.mem_of_getElem? (i := 79) rfl) rfl
theorem zm_1_80 : (Jvm.Cond.fieldLink "FlexibleBoxes$Layout" (142 : Nat) "FlexibleBoxes$Box" "line" "I") ∈ zU := zin1 (List.mem_of_getElem? (i := 80) rfl) rfl
theorem zm_1_81 : (Jvm.Cond.fieldLink "FlexibleBoxes" (150 : Nat) "FlexibleBoxes$Box" "line" "I") ∈ zU := zin1 (List.mem_of_getElem? (i := 81) rfl) rfl
theorem zm_1_119 : (Jvm.Cond.arrayClass Jvm.ClassFile.FieldType.int) ∈ zU := zin1 (List.mem_of_getElem? (i := 119) rfl) rfl
theorem zm_1_120 : (Jvm.Cond.methodLink "FlexibleBoxes$Tree" (34 : Nat) ({ cls := "FlexibleBoxes$Box", name := "begin", desc := "(LFlexibleBoxes$Box;)V" } : Jvm.MethodName)) ∈ zU := zin1 (List.mem_of_getElem? (i := 120) rfl) rfl
theorem zm_1_121 : (Jvm.Cond.instanceMethod ({ cls := "FlexibleBoxes$Box", name := "begin", desc := "(LFlexibleBoxes$Box;)V" } : Jvm.MethodName)) ∈ zU := zin1 (List.mem_of_getElem? (i := 121) rfl) rfl
theorem zm_1_122 : (Jvm.Cond.selects "FlexibleBoxes$Box" ({ cls := "FlexibleBoxes$Box", name := "begin", desc := "(LFlexibleBoxes$Box;)V" } : Jvm.MethodName) ({ cls := "FlexibleBoxes$Box", name := "begin", desc := "(LFlexibleBoxes$Box;)V" } : Jvm.MethodName)) ∈ zU := zin1 (List.mem_of_getElem? (i := 122) rfl) rfl
theorem zm_1_123 : (Jvm.Cond.code ({ cls := "FlexibleBoxes$Box", name := "begin", desc := "(LFlexibleBoxes$Box;)V" } : Jvm.MethodName) prog_2_method_2_code (3 : Nat) (Option.none : Option Jvm.ClassFile.FieldType)) ∈ zU := zin1 (List.mem_of_getElem? (i := 123) rfl) rfl
theorem zm_1_126 : (Jvm.Cond.fieldLink "FlexibleBoxes$Tree" (11 : Nat) "FlexibleBoxes$Tree" "boxes" "[LFlexibleBoxes$Box;") ∈ zU := zin1 (List.mem_of_getElem? (i := 126) rfl) rfl
theorem zm_1_127 : (Jvm.Cond.fieldLink "FlexibleBoxes$Tree" (20 : Nat) "FlexibleBoxes$Tree" "root" "LFlexibleBoxes$Box;") ∈ zU := zin1 (List.mem_of_getElem? (i := 127) rfl) rfl
theorem zm_1_128 : (Jvm.Cond.fieldLink "FlexibleBoxes$Layout" (39 : Nat) "FlexibleBoxes$Tree" "root" "LFlexibleBoxes$Box;") ∈ zU := zin1 (List.mem_of_getElem? (i := 128) rfl) rfl
theorem zm_1_129 : (Jvm.Cond.fieldLink "FlexibleBoxes$Tree" (24 : Nat) "FlexibleBoxes$Tree" "given" "I") ∈ zU := zin1 (List.mem_of_getElem? (i := 129) rfl) rfl
theorem zm_1_130 : (Jvm.Cond.fieldLink "FlexibleBoxes$Tree" (28 : Nat) "FlexibleBoxes$Tree" "viewportWidth" "I") ∈ zU := zin1 (List.mem_of_getElem? (i := 130) rfl) rfl
theorem zm_1_131 : (Jvm.Cond.fieldLink "FlexibleBoxes$Layout" (43 : Nat) "FlexibleBoxes$Tree" "viewportWidth" "I") ∈ zU := zin1 (List.mem_of_getElem? (i := 131) rfl) rfl
theorem zm_1_132 : (Jvm.Cond.fieldLink "FlexibleBoxes" (119 : Nat) "FlexibleBoxes$Tree" "viewportWidth" "I") ∈ zU := zin1 (List.mem_of_getElem? (i := 132) rfl) rfl
theorem zm_1_133 : (Jvm.Cond.fieldLink "FlexibleBoxes$Tree" (31 : Nat) "FlexibleBoxes$Tree" "viewportHeight" "I") ∈ zU := zin1 (List.mem_of_getElem? (i := 133) rfl) rfl
theorem zm_1_134 : (Jvm.Cond.fieldLink "FlexibleBoxes$Layout" (58 : Nat) "FlexibleBoxes$Tree" "viewportHeight" "I") ∈ zU := zin1 (List.mem_of_getElem? (i := 134) rfl) rfl
theorem zm_1_135 : (Jvm.Cond.fieldLink "FlexibleBoxes" (122 : Nat) "FlexibleBoxes$Tree" "viewportHeight" "I") ∈ zU := zin1 (List.mem_of_getElem? (i := 135) rfl) rfl
theorem zm_1_147 : (Jvm.Cond.classLink "FlexibleBoxes" (16 : Nat) "FlexibleBoxes$Layout") ∈ zU := zin1 (List.mem_of_getElem? (i := 147) rfl) rfl
theorem zm_1_148 : (Jvm.Cond.instantiable "FlexibleBoxes$Layout" (3 : Nat)) ∈ zU := zin1 (List.mem_of_getElem? (i := 148) rfl) rfl
theorem zm_1_149 : (Jvm.Cond.methodLink "FlexibleBoxes" (18 : Nat) ({ cls := "FlexibleBoxes$Layout", name := "<init>", desc := "(LFlexibleBoxes$Tree;)V" } : Jvm.MethodName)) ∈ zU := zin1 (List.mem_of_getElem? (i := 149) rfl) rfl
theorem zm_1_150 : (Jvm.Cond.instanceMethod ({ cls := "FlexibleBoxes$Layout", name := "<init>", desc := "(LFlexibleBoxes$Tree;)V" } : Jvm.MethodName)) ∈ zU := zin1 (List.mem_of_getElem? (i := 150) rfl) rfl
theorem zm_1_151 : (Jvm.Cond.code ({ cls := "FlexibleBoxes$Layout", name := "<init>", desc := "(LFlexibleBoxes$Tree;)V" } : Jvm.MethodName) prog_4_method_1_code (2 : Nat) (Option.none : Option Jvm.ClassFile.FieldType)) ∈ zU := zin1 (List.mem_of_getElem? (i := 151) rfl) rfl
theorem zm_1_152 : (Jvm.Cond.methodLink "FlexibleBoxes$Layout" (3 : Nat) ({ cls := "java/lang/Object", name := "<init>", desc := "()V" } : Jvm.MethodName)) ∈ zU := zin1 (List.mem_of_getElem? (i := 152) rfl) rfl
theorem zm_1_153 : (Jvm.Cond.classLink "FlexibleBoxes$Layout" (9 : Nat) "FlexibleBoxes$Flex") ∈ zU := zin1 (List.mem_of_getElem? (i := 153) rfl) rfl
theorem zm_1_154 : (Jvm.Cond.instantiable "FlexibleBoxes$Flex" (11 : Nat)) ∈ zU := zin1 (List.mem_of_getElem? (i := 154) rfl) rfl
theorem zm_1_156 : (Jvm.Cond.instanceMethod ({ cls := "FlexibleBoxes$Flex", name := "<init>", desc := "()V" } : Jvm.MethodName)) ∈ zU := zin1 (List.mem_of_getElem? (i := 156) rfl) rfl
theorem zm_1_157 : (Jvm.Cond.code ({ cls := "FlexibleBoxes$Flex", name := "<init>", desc := "()V" } : Jvm.MethodName) prog_3_method_1_code (1 : Nat) (Option.none : Option Jvm.ClassFile.FieldType)) ∈ zU := zin1 (List.mem_of_getElem? (i := 157) rfl) rfl
theorem zm_1_158 : (Jvm.Cond.methodLink "FlexibleBoxes$Flex" (3 : Nat) ({ cls := "java/lang/Object", name := "<init>", desc := "()V" } : Jvm.MethodName)) ∈ zU := zin1 (List.mem_of_getElem? (i := 158) rfl) rfl
theorem zm_1_159 : (Jvm.Cond.fieldLink "FlexibleBoxes$Flex" (9 : Nat) "FlexibleBoxes$Flex" "bases" "[I") ∈ zU := zin1 (List.mem_of_getElem? (i := 159) rfl) rfl
theorem zm_1_160 : (Jvm.Cond.fieldLink "FlexibleBoxes$Flex" (15 : Nat) "FlexibleBoxes$Flex" "leasts" "[I") ∈ zU := zin1 (List.mem_of_getElem? (i := 160) rfl) rfl
theorem zm_1_161 : (Jvm.Cond.fieldLink "FlexibleBoxes$Flex" (18 : Nat) "FlexibleBoxes$Flex" "greatests" "[I") ∈ zU := zin1 (List.mem_of_getElem? (i := 161) rfl) rfl
theorem zm_1_162 : (Jvm.Cond.fieldLink "FlexibleBoxes$Flex" (21 : Nat) "FlexibleBoxes$Flex" "grows" "[I") ∈ zU := zin1 (List.mem_of_getElem? (i := 162) rfl) rfl
theorem zm_1_163 : (Jvm.Cond.fieldLink "FlexibleBoxes$Flex" (24 : Nat) "FlexibleBoxes$Flex" "shrinks" "[I") ∈ zU := zin1 (List.mem_of_getElem? (i := 163) rfl) rfl
theorem zm_1_164 : (Jvm.Cond.fieldLink "FlexibleBoxes$Flex" (27 : Nat) "FlexibleBoxes$Flex" "factors" "[I") ∈ zU := zin1 (List.mem_of_getElem? (i := 164) rfl) rfl
theorem zm_1_165 : (Jvm.Cond.fieldLink "FlexibleBoxes$Flex" (30 : Nat) "FlexibleBoxes$Flex" "sizes" "[I") ∈ zU := zin1 (List.mem_of_getElem? (i := 165) rfl) rfl
theorem zm_1_166 : (Jvm.Cond.fieldLink "FlexibleBoxes$Flex" (33 : Nat) "FlexibleBoxes$Flex" "deviations" "[I") ∈ zU := zin1 (List.mem_of_getElem? (i := 166) rfl) rfl
theorem zm_1_167 : (Jvm.Cond.fieldLink "FlexibleBoxes$Flex" (36 : Nat) "FlexibleBoxes$Flex" "settled" "[Z") ∈ zU := zin1 (List.mem_of_getElem? (i := 167) rfl) rfl
theorem zm_1_168 : (Jvm.Cond.fieldLink "FlexibleBoxes$Flex" (40 : Nat) "FlexibleBoxes$Flex" "count" "I") ∈ zU := zin1 (List.mem_of_getElem? (i := 168) rfl) rfl
theorem zm_1_169 : (Jvm.Cond.fieldLink "FlexibleBoxes$Flex" (44 : Nat) "FlexibleBoxes$Flex" "margins" "I") ∈ zU := zin1 (List.mem_of_getElem? (i := 169) rfl) rfl
theorem zm_1_193 : (Jvm.Cond.arrayClass Jvm.ClassFile.FieldType.boolean) ∈ zU := zin1 (List.mem_of_getElem? (i := 193) rfl) rfl
theorem zm_1_194 : (Jvm.Cond.fieldLink "FlexibleBoxes$Layout" (22 : Nat) "FlexibleBoxes$Layout" "tree" "LFlexibleBoxes$Tree;") ∈ zU := zin1 (List.mem_of_getElem? (i := 194) rfl) rfl
theorem zm_1_195 : (Jvm.Cond.fieldLink "FlexibleBoxes$Layout" (12 : Nat) "FlexibleBoxes$Layout" "flex" "LFlexibleBoxes$Flex;") ∈ zU := zin1 (List.mem_of_getElem? (i := 195) rfl) rfl
theorem zm_1_196 : (Jvm.Cond.fieldLink "FlexibleBoxes$Layout" (18 : Nat) "FlexibleBoxes$Layout" "stale" "Z") ∈ zU := zin1 (List.mem_of_getElem? (i := 196) rfl) rfl
theorem zm_1_197 : (Jvm.Cond.fieldLink "FlexibleBoxes" (46 : Nat) "FlexibleBoxes$Layout" "stale" "Z") ∈ zU := zin1 (List.mem_of_getElem? (i := 197) rfl) rfl
theorem zm_1_205 : (Jvm.Cond.classLink "FlexibleBoxes" (25 : Nat) "FlexibleBoxes$Snapshot") ∈ zU := zin1 (List.mem_of_getElem? (i := 205) rfl) rfl
theorem zm_1_207 : (Jvm.Cond.fieldLink "FlexibleBoxes" (10 : Nat) "FlexibleBoxes" "tree" "LFlexibleBoxes$Tree;") ∈ zU := zin1 (List.mem_of_getElem? (i := 207) rfl) rfl
theorem zm_1_208 : (Jvm.Cond.fieldLink "FlexibleBoxes" (21 : Nat) "FlexibleBoxes" "layout" "LFlexibleBoxes$Layout;") ∈ zU := zin1 (List.mem_of_getElem? (i := 208) rfl) rfl
theorem zm_1_209 : (Jvm.Cond.fieldLink "FlexibleBoxes" (27 : Nat) "FlexibleBoxes" "slots" "[LFlexibleBoxes$Snapshot;") ∈ zU := zin1 (List.mem_of_getElem? (i := 209) rfl) rfl
theorem zm_1_217 : (Jvm.Cond.methodLink "FlexibleBoxesLaw" (25 : Nat) ({ cls := "FlexibleBoxes", name := "add", desc := "(I)I" } : Jvm.MethodName)) ∈ zU := zin1 (List.mem_of_getElem? (i := 217) rfl) rfl
theorem zm_1_218 : (Jvm.Cond.instanceMethod ({ cls := "FlexibleBoxes", name := "add", desc := "(I)I" } : Jvm.MethodName)) ∈ zU := zin1 (List.mem_of_getElem? (i := 218) rfl) rfl
theorem zm_1_219 : (Jvm.Cond.selects "FlexibleBoxes" ({ cls := "FlexibleBoxes", name := "add", desc := "(I)I" } : Jvm.MethodName) ({ cls := "FlexibleBoxes", name := "add", desc := "(I)I" } : Jvm.MethodName)) ∈ zU := zin1 (List.mem_of_getElem? (i := 219) rfl) rfl
theorem zm_1_220 : (Jvm.Cond.code ({ cls := "FlexibleBoxes", name := "add", desc := "(I)I" } : Jvm.MethodName) prog_1_method_2_code (3 : Nat) (Option.some Jvm.ClassFile.FieldType.int)) ∈ zU := zin1 (List.mem_of_getElem? (i := 220) rfl) rfl
theorem zm_1_221 : (Jvm.Cond.methodLink "FlexibleBoxes" (31 : Nat) ({ cls := "FlexibleBoxes", name := "existing", desc := "(I)LFlexibleBoxes$Box;" } : Jvm.MethodName)) ∈ zU := zin1 (List.mem_of_getElem? (i := 221) rfl) rfl
theorem zm_1_223 : (Jvm.Cond.instanceMethod ({ cls := "FlexibleBoxes", name := "existing", desc := "(I)LFlexibleBoxes$Box;" } : Jvm.MethodName)) ∈ zU := zin1 (List.mem_of_getElem? (i := 223) rfl) rfl
theorem zm_1_224 : (Jvm.Cond.code ({ cls := "FlexibleBoxes", name := "existing", desc := "(I)LFlexibleBoxes$Box;" } : Jvm.MethodName) prog_1_method_24_code (3 : Nat) (Option.some (Jvm.ClassFile.FieldType.object "FlexibleBoxes$Box"))) ∈ zU := zin1 (List.mem_of_getElem? (i := 224) rfl) rfl
theorem zm_1_225 : (Jvm.Cond.methodLink "FlexibleBoxes" (183 : Nat) ({ cls := "FlexibleBoxes$Tree", name := "at", desc := "(I)LFlexibleBoxes$Box;" } : Jvm.MethodName)) ∈ zU := zin1 (List.mem_of_getElem? (i := 225) rfl) rfl
theorem zm_1_226 : (Jvm.Cond.instanceMethod ({ cls := "FlexibleBoxes$Tree", name := "at", desc := "(I)LFlexibleBoxes$Box;" } : Jvm.MethodName)) ∈ zU := zin1 (List.mem_of_getElem? (i := 226) rfl) rfl
theorem zm_1_227 : (Jvm.Cond.selects "FlexibleBoxes$Tree" ({ cls := "FlexibleBoxes$Tree", name := "at", desc := "(I)LFlexibleBoxes$Box;" } : Jvm.MethodName) ({ cls := "FlexibleBoxes$Tree", name := "at", desc := "(I)LFlexibleBoxes$Box;" } : Jvm.MethodName)) ∈ zU := zin1 (List.mem_of_getElem? (i := 227) rfl) rfl
theorem zm_1_228 : (Jvm.Cond.code ({ cls := "FlexibleBoxes$Tree", name := "at", desc := "(I)LFlexibleBoxes$Box;" } : Jvm.MethodName) prog_6_method_2_code (2 : Nat) (Option.some (Jvm.ClassFile.FieldType.object "FlexibleBoxes$Box"))) ∈ zU := zin1 (List.mem_of_getElem? (i := 228) rfl) rfl
theorem zm_1_229 : (Jvm.Cond.classLink "FlexibleBoxes" (189 : Nat) "java/lang/IndexOutOfBoundsException") ∈ zU := zin1 (List.mem_of_getElem? (i := 229) rfl) rfl
theorem zm_1_230 : (Jvm.Cond.instantiable "java/lang/IndexOutOfBoundsException" (6 : Nat)) ∈ zU := zin1 (List.mem_of_getElem? (i := 230) rfl) rfl
theorem zm_1_238 : (Jvm.Cond.selects "java/lang/IndexOutOfBoundsException" ({ cls := "java/lang/Throwable", name := "fillInStackTrace", desc := "(I)Ljava/lang/Throwable;" } : Jvm.MethodName) ({ cls := "java/lang/Throwable", name := "fillInStackTrace", desc := "(I)Ljava/lang/Throwable;" } : Jvm.MethodName)) ∈ zU := zin1 (List.mem_of_getElem? (i := 238) rfl) rfl
theorem zm_1_239 : (Jvm.Cond.selects "java/lang/IndexOutOfBoundsException" ({ cls := "java/lang/Throwable", name := "fillInStackTrace", desc := "()Ljava/lang/Throwable;" } : Jvm.MethodName) ({ cls := "java/lang/Throwable", name := "fillInStackTrace", desc := "()Ljava/lang/Throwable;" } : Jvm.MethodName)) ∈ zU := zin1 (List.mem_of_getElem? (i := 239) rfl) rfl
theorem zm_2_10 : (Jvm.Cond.fieldLink "java/lang/Throwable" (198 : Nat) "java/lang/Throwable" "backtrace" "Ljava/lang/Object;") ∈ zU := zin2 (List.mem_of_getElem? (i := 10) rfl) rfl
theorem zm_2_12 : (Jvm.Cond.instanceMethod ({ cls := "java/lang/Throwable", name := "<init>", desc := "()V" } : Jvm.MethodName)) ∈ zU := zin2 (List.mem_of_getElem? (i := 12) rfl) rfl
theorem zm_2_13 : (Jvm.Cond.code ({ cls := "java/lang/Throwable", name := "<init>", desc := "()V" } : Jvm.MethodName) prog_16_method_1_code (1 : Nat) (Option.none : Option Jvm.ClassFile.FieldType)) ∈ zU := zin2 (List.mem_of_getElem? (i := 13) rfl) rfl
theorem zm_2_14 : (Jvm.Cond.methodLink "java/lang/Throwable" (1 : Nat) ({ cls := "java/lang/Object", name := "<init>", desc := "()V" } : Jvm.MethodName)) ∈ zU := zin2 (List.mem_of_getElem? (i := 14) rfl) rfl
theorem zm_2_15 : (Jvm.Cond.fieldLink "java/lang/Throwable" (13 : Nat) "java/lang/Throwable" "UNASSIGNED_STACK" "[Ljava/lang/StackTraceElement;") ∈ zU := zin2 (List.mem_of_getElem? (i := 15) rfl) rfl
theorem zm_2_17 : (Jvm.Cond.fieldLink "java/lang/Throwable" (20 : Nat) "java/lang/Throwable" "SUPPRESSED_SENTINEL" "Ljava/util/List;") ∈ zU := zin2 (List.mem_of_getElem? (i := 17) rfl) rfl
theorem zm_2_19 : (Jvm.Cond.methodLink "java/lang/Throwable" (27 : Nat) ({ cls := "java/lang/Throwable", name := "fillInStackTrace", desc := "()Ljava/lang/Throwable;" } : Jvm.MethodName)) ∈ zU := zin2 (List.mem_of_getElem? (i := 19) rfl) rfl
theorem zm_2_20 : (Jvm.Cond.instanceMethod ({ cls := "java/lang/Throwable", name := "fillInStackTrace", desc := "()Ljava/lang/Throwable;" } : Jvm.MethodName)) ∈ zU := zin2 (List.mem_of_getElem? (i := 20) rfl) rfl
theorem zm_2_22 : (Jvm.Cond.selects "java/lang/IllegalArgumentException" ({ cls := "java/lang/Throwable", name := "fillInStackTrace", desc := "()Ljava/lang/Throwable;" } : Jvm.MethodName) ({ cls := "java/lang/Throwable", name := "fillInStackTrace", desc := "()Ljava/lang/Throwable;" } : Jvm.MethodName)) ∈ zU := zin2 (List.mem_of_getElem? (i := 22) rfl) rfl
theorem zm_2_23 : (Jvm.Cond.selects "java/lang/IllegalStateException" ({ cls := "java/lang/Throwable", name := "fillInStackTrace", desc := "()Ljava/lang/Throwable;" } : Jvm.MethodName) ({ cls := "java/lang/Throwable", name := "fillInStackTrace", desc := "()Ljava/lang/Throwable;" } : Jvm.MethodName)) ∈ zU := zin2 (List.mem_of_getElem? (i := 23) rfl) rfl
theorem zm_2_25 : (Jvm.Cond.methodLink "java/lang/Throwable" (202 : Nat) ({ cls := "java/lang/Throwable", name := "fillInStackTrace", desc := "(I)Ljava/lang/Throwable;" } : Jvm.MethodName)) ∈ zU := zin2 (List.mem_of_getElem? (i := 25) rfl) rfl
theorem zm_2_27 : (Jvm.Cond.instanceMethod ({ cls := "java/lang/Throwable", name := "fillInStackTrace", desc := "(I)Ljava/lang/Throwable;" } : Jvm.MethodName)) ∈ zU := zin2 (List.mem_of_getElem? (i := 27) rfl) rfl
theorem zm_2_28 : (Jvm.Cond.instantiable "java/lang/Throwable" (6 : Nat)) ∈ zU := zin2 (List.mem_of_getElem? (i := 28) rfl) rfl
theorem zm_2_31 : (Jvm.Cond.methodLink "FlexibleBoxes" (193 : Nat) ({ cls := "java/lang/IndexOutOfBoundsException", name := "<init>", desc := "(Ljava/lang/String;)V" } : Jvm.MethodName)) ∈ zU := zin2 (List.mem_of_getElem? (i := 31) rfl) rfl
theorem zm_2_32 : (Jvm.Cond.instanceMethod ({ cls := "java/lang/IndexOutOfBoundsException", name := "<init>", desc := "(Ljava/lang/String;)V" } : Jvm.MethodName)) ∈ zU := zin2 (List.mem_of_getElem? (i := 32) rfl) rfl
theorem zm_2_33 : (Jvm.Cond.code ({ cls := "java/lang/IndexOutOfBoundsException", name := "<init>", desc := "(Ljava/lang/String;)V" } : Jvm.MethodName) prog_12_method_2_code (2 : Nat) (Option.none : Option Jvm.ClassFile.FieldType)) ∈ zU := zin2 (List.mem_of_getElem? (i := 33) rfl) rfl
theorem zm_2_34 : (Jvm.Cond.methodLink "java/lang/IndexOutOfBoundsException" (7 : Nat) ({ cls := "java/lang/RuntimeException", name := "<init>", desc := "(Ljava/lang/String;)V" } : Jvm.MethodName)) ∈ zU := zin2 (List.mem_of_getElem? (i := 34) rfl) rfl
theorem zm_2_35 : (Jvm.Cond.instanceMethod ({ cls := "java/lang/RuntimeException", name := "<init>", desc := "(Ljava/lang/String;)V" } : Jvm.MethodName)) ∈ zU := zin2 (List.mem_of_getElem? (i := 35) rfl) rfl
theorem zm_2_36 : (Jvm.Cond.code ({ cls := "java/lang/RuntimeException", name := "<init>", desc := "(Ljava/lang/String;)V" } : Jvm.MethodName) prog_14_method_2_code (2 : Nat) (Option.none : Option Jvm.ClassFile.FieldType)) ∈ zU := zin2 (List.mem_of_getElem? (i := 36) rfl) rfl
theorem zm_2_37 : (Jvm.Cond.methodLink "java/lang/RuntimeException" (7 : Nat) ({ cls := "java/lang/Exception", name := "<init>", desc := "(Ljava/lang/String;)V" } : Jvm.MethodName)) ∈ zU := zin2 (List.mem_of_getElem? (i := 37) rfl) rfl
theorem zm_2_38 : (Jvm.Cond.instanceMethod ({ cls := "java/lang/Exception", name := "<init>", desc := "(Ljava/lang/String;)V" } : Jvm.MethodName)) ∈ zU := zin2 (List.mem_of_getElem? (i := 38) rfl) rfl
theorem zm_2_39 : (Jvm.Cond.code ({ cls := "java/lang/Exception", name := "<init>", desc := "(Ljava/lang/String;)V" } : Jvm.MethodName) prog_9_method_2_code (2 : Nat) (Option.none : Option Jvm.ClassFile.FieldType)) ∈ zU := zin2 (List.mem_of_getElem? (i := 39) rfl) rfl
theorem zm_2_40 : (Jvm.Cond.methodLink "java/lang/Exception" (7 : Nat) ({ cls := "java/lang/Throwable", name := "<init>", desc := "(Ljava/lang/String;)V" } : Jvm.MethodName)) ∈ zU := zin2 (List.mem_of_getElem? (i := 40) rfl) rfl
theorem zm_2_41 : (Jvm.Cond.instanceMethod ({ cls := "java/lang/Throwable", name := "<init>", desc := "(Ljava/lang/String;)V" } : Jvm.MethodName)) ∈ zU := zin2 (List.mem_of_getElem? (i := 41) rfl) rfl
theorem zm_2_42 : (Jvm.Cond.code ({ cls := "java/lang/Throwable", name := "<init>", desc := "(Ljava/lang/String;)V" } : Jvm.MethodName) prog_16_method_2_code (2 : Nat) (Option.none : Option Jvm.ClassFile.FieldType)) ∈ zU := zin2 (List.mem_of_getElem? (i := 42) rfl) rfl
theorem zm_2_43 : (Jvm.Cond.fieldLink "java/lang/Throwable" (198 : Nat) "java/lang/Throwable" "backtrace" "Ljava/lang/Object;") ∈ zU := zin2 (List.mem_of_getElem? (i := 43) rfl) rfl
theorem zm_2_44 : (Jvm.Cond.fieldLink "java/lang/Throwable" (31 : Nat) "java/lang/Throwable" "detailMessage" "Ljava/lang/String;") ∈ zU := zin2 (List.mem_of_getElem? (i := 44) rfl) rfl
theorem zm_2_45 : (Jvm.Cond.fieldLink "java/lang/Throwable" (7 : Nat) "java/lang/Throwable" "cause" "Ljava/lang/Throwable;") ∈ zU := zin2 (List.mem_of_getElem? (i := 45) rfl) rfl
theorem zm_2_46 : (Jvm.Cond.fieldLink "java/lang/Throwable" (17 : Nat) "java/lang/Throwable" "stackTrace" "[Ljava/lang/StackTraceElement;") ∈ zU := zin2 (List.mem_of_getElem? (i := 46) rfl) rfl
theorem zm_2_47 : (Jvm.Cond.fieldLink "java/lang/Throwable" (24 : Nat) "java/lang/Throwable" "suppressedExceptions" "Ljava/util/List;") ∈ zU := zin2 (List.mem_of_getElem? (i := 47) rfl) rfl
theorem zm_2_56 : (Jvm.Cond.arrayClass Jvm.ClassFile.FieldType.byte) ∈ zU := zin2 (List.mem_of_getElem? (i := 56) rfl) rfl
theorem zm_2_57 : (Jvm.Cond.methodLink "FlexibleBoxes" (35 : Nat) ({ cls := "FlexibleBoxes$Tree", name := "isFull", desc := "()Z" } : Jvm.MethodName)) ∈ zU := zin2 (List.mem_of_getElem? (i := 57) rfl) rfl
theorem zm_2_58 : (Jvm.Cond.instanceMethod ({ cls := "FlexibleBoxes$Tree", name := "isFull", desc := "()Z" } : Jvm.MethodName)) ∈ zU := zin2 (List.mem_of_getElem? (i := 58) rfl) rfl
theorem zm_2_59 : (Jvm.Cond.selects "FlexibleBoxes$Tree" ({ cls := "FlexibleBoxes$Tree", name := "isFull", desc := "()Z" } : Jvm.MethodName) ({ cls := "FlexibleBoxes$Tree", name := "isFull", desc := "()Z" } : Jvm.MethodName)) ∈ zU := zin2 (List.mem_of_getElem? (i := 59) rfl) rfl
theorem zm_2_60 : (Jvm.Cond.code ({ cls := "FlexibleBoxes$Tree", name := "isFull", desc := "()Z" } : Jvm.MethodName) prog_6_method_4_code (1 : Nat) (Option.some Jvm.ClassFile.FieldType.boolean)) ∈ zU := zin2 (List.mem_of_getElem? (i := 60) rfl) rfl
theorem zm_2_61 : (Jvm.Cond.classLink "FlexibleBoxes" (39 : Nat) "java/lang/IllegalStateException") ∈ zU := zin2 (List.mem_of_getElem? (i := 61) rfl) rfl
theorem zm_2_62 : (Jvm.Cond.instantiable "java/lang/IllegalStateException" (6 : Nat)) ∈ zU := zin2 (List.mem_of_getElem? (i := 62) rfl) rfl
theorem zm_2_64 : (Jvm.Cond.selects "java/lang/IllegalStateException" ({ cls := "java/lang/Throwable", name := "fillInStackTrace", desc := "(I)Ljava/lang/Throwable;" } : Jvm.MethodName) ({ cls := "java/lang/Throwable", name := "fillInStackTrace", desc := "(I)Ljava/lang/Throwable;" } : Jvm.MethodName)) ∈ zU := zin2 (List.mem_of_getElem? (i := 64) rfl) rfl
theorem zm_2_71 : (Jvm.Cond.methodLink "FlexibleBoxes" (43 : Nat) ({ cls := "java/lang/IllegalStateException", name := "<init>", desc := "(Ljava/lang/String;)V" } : Jvm.MethodName)) ∈ zU := zin2 (List.mem_of_getElem? (i := 71) rfl) rfl
theorem zm_2_72 : (Jvm.Cond.instanceMethod ({ cls := "java/lang/IllegalStateException", name := "<init>", desc := "(Ljava/lang/String;)V" } : Jvm.MethodName)) ∈ zU := zin2 (List.mem_of_getElem? (i := 72) rfl) rfl
theorem zm_2_73 : (Jvm.Cond.code ({ cls := "java/lang/IllegalStateException", name := "<init>", desc := "(Ljava/lang/String;)V" } : Jvm.MethodName) prog_11_method_2_code (2 : Nat) (Option.none : Option Jvm.ClassFile.FieldType)) ∈ zU := zin2 (List.mem_of_getElem? (i := 73) rfl) rfl
theorem zm_2_74 : (Jvm.Cond.methodLink "java/lang/IllegalStateException" (7 : Nat) ({ cls := "java/lang/RuntimeException", name := "<init>", desc := "(Ljava/lang/String;)V" } : Jvm.MethodName)) ∈ zU := zin2 (List.mem_of_getElem? (i := 74) rfl) rfl
theorem zm_2_77 : (Jvm.Cond.methodLink "FlexibleBoxes" (50 : Nat) ({ cls := "FlexibleBoxes$Tree", name := "append", desc := "(LFlexibleBoxes$Box;)I" } : Jvm.MethodName)) ∈ zU := zin2 (List.mem_of_getElem? (i := 77) rfl) rfl
theorem zm_2_78 : (Jvm.Cond.instanceMethod ({ cls := "FlexibleBoxes$Tree", name := "append", desc := "(LFlexibleBoxes$Box;)I" } : Jvm.MethodName)) ∈ zU := zin2 (List.mem_of_getElem? (i := 78) rfl) rfl
theorem zm_2_79 : (Jvm.Cond.selects "FlexibleBoxes$Tree" ({ cls := "FlexibleBoxes$Tree", name := "append", desc := "(LFlexibleBoxes$Box;)I" } : Jvm.MethodName) ({ cls := "FlexibleBoxes$Tree", name := "append", desc := "(LFlexibleBoxes$Box;)I" } : Jvm.MethodName)) ∈ zU := zin2 (List.mem_of_getElem? (i := 79) rfl) rfl
theorem zm_2_80 : (Jvm.Cond.code ({ cls := "FlexibleBoxes$Tree", name := "append", desc := "(LFlexibleBoxes$Box;)I" } : Jvm.MethodName) prog_6_method_5_code (3 : Nat) (Option.some Jvm.ClassFile.FieldType.int)) ∈ zU := zin2 (List.mem_of_getElem? (i := 80) rfl) rfl
theorem zm_2_81 : (Jvm.Cond.methodLink "FlexibleBoxes$Tree" (38 : Nat) ({ cls := "FlexibleBoxes$Tree", name := "at", desc := "(I)LFlexibleBoxes$Box;" } : Jvm.MethodName)) ∈ zU := zin2 (List.mem_of_getElem? (i := 81) rfl) rfl
theorem zm_2_82 : (Jvm.Cond.methodLink "FlexibleBoxesLaw" (60 : Nat) ({ cls := "FlexibleBoxes", name := "child", desc := "(II)I" } : Jvm.MethodName)) ∈ zU := zin2 (List.mem_of_getElem? (i := 82) rfl) rfl
theorem zm_2_83 : (Jvm.Cond.instanceMethod ({ cls := "FlexibleBoxes", name := "child", desc := "(II)I" } : Jvm.MethodName)) ∈ zU := zin2 (List.mem_of_getElem? (i := 83) rfl) rfl
theorem zm_2_84 : (Jvm.Cond.selects "FlexibleBoxes" ({ cls := "FlexibleBoxes", name := "child", desc := "(II)I" } : Jvm.MethodName) ({ cls := "FlexibleBoxes", name := "child", desc := "(II)I" } : Jvm.MethodName)) ∈ zU := zin2 (List.mem_of_getElem? (i := 84) rfl) rfl
theorem zm_2_85 : (Jvm.Cond.code ({ cls := "FlexibleBoxes", name := "child", desc := "(II)I" } : Jvm.MethodName) prog_1_method_6_code (6 : Nat) (Option.some Jvm.ClassFile.FieldType.int)) ∈ zU := zin2 (List.mem_of_getElem? (i := 85) rfl) rfl
theorem zm_2_86 : (Jvm.Cond.methodLink "FlexibleBoxes" (74 : Nat) ({ cls := "FlexibleBoxes$Layout", name := "arrange", desc := "()V" } : Jvm.MethodName)) ∈ zU := zin2 (List.mem_of_getElem? (i := 86) rfl) rfl
theorem zm_2_87 : (Jvm.Cond.instanceMethod ({ cls := "FlexibleBoxes$Layout", name := "arrange", desc := "()V" } : Jvm.MethodName)) ∈ zU := zin2 (List.mem_of_getElem? (i := 87) rfl) rfl
theorem zm_2_88 : (Jvm.Cond.selects "FlexibleBoxes$Layout" ({ cls := "FlexibleBoxes$Layout", name := "arrange", desc := "()V" } : Jvm.MethodName) ({ cls := "FlexibleBoxes$Layout", name := "arrange", desc := "()V" } : Jvm.MethodName)) ∈ zU := zin2 (List.mem_of_getElem? (i := 88) rfl) rfl
theorem zm_2_89 : (Jvm.Cond.code ({ cls := "FlexibleBoxes$Layout", name := "arrange", desc := "()V" } : Jvm.MethodName) prog_4_method_2_code (3 : Nat) (Option.none : Option Jvm.ClassFile.FieldType)) ∈ zU := zin2 (List.mem_of_getElem? (i := 89) rfl) rfl
theorem zm_2_90 : (Jvm.Cond.methodLink "FlexibleBoxes$Layout" (26 : Nat) ({ cls := "FlexibleBoxes$Tree", name := "link", desc := "()V" } : Jvm.MethodName)) ∈ zU := zin2 (List.mem_of_getElem? (i := 90) rfl) rfl
theorem zm_2_91 : (Jvm.Cond.instanceMethod ({ cls := "FlexibleBoxes$Tree", name := "link", desc := "()V" } : Jvm.MethodName)) ∈ zU := zin2 (List.mem_of_getElem? (i := 91) rfl) rfl
theorem zm_2_92 : (Jvm.Cond.selects "FlexibleBoxes$Tree" ({ cls := "FlexibleBoxes$Tree", name := "link", desc := "()V" } : Jvm.MethodName) ({ cls := "FlexibleBoxes$Tree", name := "link", desc := "()V" } : Jvm.MethodName)) ∈ zU := zin2 (List.mem_of_getElem? (i := 92) rfl) rfl
theorem zm_2_93 : (Jvm.Cond.code ({ cls := "FlexibleBoxes$Tree", name := "link", desc := "()V" } : Jvm.MethodName) prog_6_method_8_code (3 : Nat) (Option.none : Option Jvm.ClassFile.FieldType)) ∈ zU := zin2 (List.mem_of_getElem? (i := 93) rfl) rfl
theorem zm_2_94 : (Jvm.Cond.methodLink "FlexibleBoxes$Tree" (55 : Nat) ({ cls := "FlexibleBoxes$Box", name := "unlink", desc := "()V" } : Jvm.MethodName)) ∈ zU := zin2 (List.mem_of_getElem? (i := 94) rfl) rfl
theorem zm_2_95 : (Jvm.Cond.instanceMethod ({ cls := "FlexibleBoxes$Box", name := "unlink", desc := "()V" } : Jvm.MethodName)) ∈ zU := zin2 (List.mem_of_getElem? (i := 95) rfl) rfl
theorem zm_2_96 : (Jvm.Cond.selects "FlexibleBoxes$Box" ({ cls := "FlexibleBoxes$Box", name := "unlink", desc := "()V" } : Jvm.MethodName) ({ cls := "FlexibleBoxes$Box", name := "unlink", desc := "()V" } : Jvm.MethodName)) ∈ zU := zin2 (List.mem_of_getElem? (i := 96) rfl) rfl
theorem zm_2_97 : (Jvm.Cond.code ({ cls := "FlexibleBoxes$Box", name := "unlink", desc := "()V" } : Jvm.MethodName) prog_2_method_9_code (1 : Nat) (Option.none : Option Jvm.ClassFile.FieldType)) ∈ zU := zin2 (List.mem_of_getElem? (i := 97) rfl) rfl
theorem zm_2_98 : (Jvm.Cond.methodLink "FlexibleBoxes$Tree" (61 : Nat) ({ cls := "FlexibleBoxes$Box", name := "of", desc := "(I)I" } : Jvm.MethodName)) ∈ zU := zin2 (List.mem_of_getElem? (i := 98) rfl) rfl
theorem zm_2_99 : (Jvm.Cond.instanceMethod ({ cls := "FlexibleBoxes$Box", name := "of", desc := "(I)I" } : Jvm.MethodName)) ∈ zU := zin2 (List.mem_of_getElem? (i := 99) rfl) rfl
theorem zm_2_100 : (Jvm.Cond.selects "FlexibleBoxes$Box" ({ cls := "FlexibleBoxes$Box", name := "of", desc := "(I)I" } : Jvm.MethodName) ({ cls := "FlexibleBoxes$Box", name := "of", desc := "(I)I" } : Jvm.MethodName)) ∈ zU := zin2 (List.mem_of_getElem? (i := 100) rfl) rfl
theorem zm_2_101 : (Jvm.Cond.code ({ cls := "FlexibleBoxes$Box", name := "of", desc := "(I)I" } : Jvm.MethodName) prog_2_method_3_code (2 : Nat) (Option.some Jvm.ClassFile.FieldType.int)) ∈ zU := zin2 (List.mem_of_getElem? (i := 101) rfl) rfl
theorem zm_2_102 : (Jvm.Cond.methodLink "FlexibleBoxes$Tree" (65 : Nat) ({ cls := "FlexibleBoxes$Box", name := "adopt", desc := "(LFlexibleBoxes$Box;)V" } : Jvm.MethodName)) ∈ zU := zin2 (List.mem_of_getElem? (i := 102) rfl) rfl
theorem zm_2_103 : (Jvm.Cond.instanceMethod ({ cls := "FlexibleBoxes$Box", name := "adopt", desc := "(LFlexibleBoxes$Box;)V" } : Jvm.MethodName)) ∈ zU := zin2 (List.mem_of_getElem? (i := 103) rfl) rfl
theorem zm_2_104 : (Jvm.Cond.selects "FlexibleBoxes$Box" ({ cls := "FlexibleBoxes$Box", name := "adopt", desc := "(LFlexibleBoxes$Box;)V" } : Jvm.MethodName) ({ cls := "FlexibleBoxes$Box", name := "adopt", desc := "(LFlexibleBoxes$Box;)V" } : Jvm.MethodName)) ∈ zU := zin2 (List.mem_of_getElem? (i := 104) rfl) rfl
theorem zm_2_105 : (Jvm.Cond.code ({ cls := "FlexibleBoxes$Box", name := "adopt", desc := "(LFlexibleBoxes$Box;)V" } : Jvm.MethodName) prog_2_method_10_code (4 : Nat) (Option.none : Option Jvm.ClassFile.FieldType)) ∈ zU := zin2 (List.mem_of_getElem? (i := 105) rfl) rfl
theorem zm_2_106 : (Jvm.Cond.methodLink "FlexibleBoxes$Box" (30 : Nat) ({ cls := "FlexibleBoxes$Box", name := "of", desc := "(I)I" } : Jvm.MethodName)) ∈ zU := zin2 (List.mem_of_getElem? (i := 106) rfl) rfl
theorem zm_2_107 : (Jvm.Cond.methodLink "FlexibleBoxes$Layout" (31 : Nat) ({ cls := "FlexibleBoxes$Tree", name := "shownAt", desc := "(I)LFlexibleBoxes$Box;" } : Jvm.MethodName)) ∈ zU := zin2 (List.mem_of_getElem? (i := 107) rfl) rfl
theorem zm_2_108 : (Jvm.Cond.instanceMethod ({ cls := "FlexibleBoxes$Tree", name := "shownAt", desc := "(I)LFlexibleBoxes$Box;" } : Jvm.MethodName)) ∈ zU := zin2 (List.mem_of_getElem? (i := 108) rfl) rfl
theorem zm_2_109 : (Jvm.Cond.selects "FlexibleBoxes$Tree" ({ cls := "FlexibleBoxes$Tree", name := "shownAt", desc := "(I)LFlexibleBoxes$Box;" } : Jvm.MethodName) ({ cls := "FlexibleBoxes$Tree", name := "shownAt", desc := "(I)LFlexibleBoxes$Box;" } : Jvm.MethodName)) ∈ zU := zin2 (List.mem_of_getElem? (i := 109) rfl) rfl
theorem zm_2_110 : (Jvm.Cond.code ({ cls := "FlexibleBoxes$Tree", name := "shownAt", desc := "(I)LFlexibleBoxes$Box;" } : Jvm.MethodName) prog_6_method_3_code (3 : Nat) (Option.some (Jvm.ClassFile.FieldType.object "FlexibleBoxes$Box"))) ∈ zU := zin2 (List.mem_of_getElem? (i := 110) rfl) rfl
theorem zm_2_111 : (Jvm.Cond.methodLink "FlexibleBoxes$Layout" (35 : Nat) ({ cls := "FlexibleBoxes$Layout", name := "measureWidth", desc := "(LFlexibleBoxes$Box;)V" } : Jvm.MethodName)) ∈ zU := zin2 (List.mem_of_getElem? (i := 111) rfl) rfl
theorem zm_2_112 : (Jvm.Cond.static ({ cls := "FlexibleBoxes$Layout", name := "measureWidth", desc := "(LFlexibleBoxes$Box;)V" } : Jvm.MethodName)) ∈ zU := zin2 (List.mem_of_getElem? (i := 112) rfl) rfl
theorem zm_2_113 : (Jvm.Cond.code ({ cls := "FlexibleBoxes$Layout", name := "measureWidth", desc := "(LFlexibleBoxes$Box;)V" } : Jvm.MethodName) prog_4_method_3_code (2 : Nat) (Option.none : Option Jvm.ClassFile.FieldType)) ∈ zU := zin2 (List.mem_of_getElem? (i := 113) rfl) rfl
theorem zm_2_114 : (Jvm.Cond.methodLink "FlexibleBoxes$Layout" (74 : Nat) ({ cls := "FlexibleBoxes$Box", name := "fixedSize", desc := "(I)I" } : Jvm.MethodName)) ∈ zU := zin2 (List.mem_of_getElem? (i := 114) rfl) rfl
theorem zm_2_115 : (Jvm.Cond.instanceMethod ({ cls := "FlexibleBoxes$Box", name := "fixedSize", desc := "(I)I" } : Jvm.MethodName)) ∈ zU := zin2 (List.mem_of_getElem? (i := 115) rfl) rfl
theorem zm_2_116 : (Jvm.Cond.selects "FlexibleBoxes$Box" ({ cls := "FlexibleBoxes$Box", name := "fixedSize", desc := "(I)I" } : Jvm.MethodName) ({ cls := "FlexibleBoxes$Box", name := "fixedSize", desc := "(I)I" } : Jvm.MethodName)) ∈ zU := zin2 (List.mem_of_getElem? (i := 116) rfl) rfl
theorem zm_2_117 : (Jvm.Cond.code ({ cls := "FlexibleBoxes$Box", name := "fixedSize", desc := "(I)I" } : Jvm.MethodName) prog_2_method_16_code (2 : Nat) (Option.some Jvm.ClassFile.FieldType.int)) ∈ zU := zin2 (List.mem_of_getElem? (i := 117) rfl) rfl
theorem zm_2_118 : (Jvm.Cond.methodLink "FlexibleBoxes$Box" (65 : Nat) ({ cls := "FlexibleBoxes$Box", name := "isRoot", desc := "()Z" } : Jvm.MethodName)) ∈ zU := zin2 (List.mem_of_getElem? (i := 118) rfl) rfl
theorem zm_2_119 : (Jvm.Cond.instanceMethod ({ cls := "FlexibleBoxes$Box", name := "isRoot", desc := "()Z" } : Jvm.MethodName)) ∈ zU := zin2 (List.mem_of_getElem? (i := 119) rfl) rfl
theorem zm_2_120 : (Jvm.Cond.selects "FlexibleBoxes$Box" ({ cls := "FlexibleBoxes$Box", name := "isRoot", desc := "()Z" } : Jvm.MethodName) ({ cls := "FlexibleBoxes$Box", name := "isRoot", desc := "()Z" } : Jvm.MethodName)) ∈ zU := zin2 (List.mem_of_getElem? (i := 120) rfl) rfl
theorem zm_2_121 : (Jvm.Cond.code ({ cls := "FlexibleBoxes$Box", name := "isRoot", desc := "()Z" } : Jvm.MethodName) prog_2_method_5_code (1 : Nat) (Option.some Jvm.ClassFile.FieldType.boolean)) ∈ zU := zin2 (List.mem_of_getElem? (i := 121) rfl) rfl
theorem zm_2_122 : (Jvm.Cond.methodLink "FlexibleBoxes$Layout" (78 : Nat) ({ cls := "FlexibleBoxes$Layout", name := "contentWidth", desc := "(LFlexibleBoxes$Box;)I" } : Jvm.MethodName)) ∈ zU := zin2 (List.mem_of_getElem? (i := 122) rfl) rfl
theorem zm_2_123 : (Jvm.Cond.static ({ cls := "FlexibleBoxes$Layout", name := "contentWidth", desc := "(LFlexibleBoxes$Box;)I" } : Jvm.MethodName)) ∈ zU := zin2 (List.mem_of_getElem? (i := 123) rfl) rfl
theorem zm_2_124 : (Jvm.Cond.code ({ cls := "FlexibleBoxes$Layout", name := "contentWidth", desc := "(LFlexibleBoxes$Box;)I" } : Jvm.MethodName) prog_4_method_4_code (5 : Nat) (Option.some Jvm.ClassFile.FieldType.int)) ∈ zU := zin2 (List.mem_of_getElem? (i := 124) rfl) rfl
theorem zm_2_125 : (Jvm.Cond.methodLink "FlexibleBoxes$Layout" (82 : Nat) ({ cls := "FlexibleBoxes$Box", name := "of", desc := "(I)I" } : Jvm.MethodName)) ∈ zU := zin2 (List.mem_of_getElem? (i := 125) rfl) rfl
theorem zm_2_127 : (Jvm.Cond.static ({ cls := "FlexibleBoxes", name := "gaps", desc := "(II)I" } : Jvm.MethodName)) ∈ zU := zin2 (List.mem_of_getElem? (i := 127) rfl) rfl
theorem zm_2_128 : (Jvm.Cond.code ({ cls := "FlexibleBoxes", name := "gaps", desc := "(II)I" } : Jvm.MethodName) prog_1_method_29_code (2 : Nat) (Option.some Jvm.ClassFile.FieldType.int)) ∈ zU := zin2 (List.mem_of_getElem? (i := 128) rfl) rfl
theorem zm_2_129 : (Jvm.Cond.methodLink "FlexibleBoxes$Layout" (104 : Nat) ({ cls := "FlexibleBoxes$Box", name := "margins", desc := "()I" } : Jvm.MethodName)) ∈ zU := zin2 (List.mem_of_getElem? (i := 129) rfl) rfl
theorem zm_2_130 : (Jvm.Cond.instanceMethod ({ cls := "FlexibleBoxes$Box", name := "margins", desc := "()I" } : Jvm.MethodName)) ∈ zU := zin2 (List.mem_of_getElem? (i := 130) rfl) rfl
theorem zm_2_131 : (Jvm.Cond.selects "FlexibleBoxes$Box" ({ cls := "FlexibleBoxes$Box", name := "margins", desc := "()I" } : Jvm.MethodName) ({ cls := "FlexibleBoxes$Box", name := "margins", desc := "()I" } : Jvm.MethodName)) ∈ zU := zin2 (List.mem_of_getElem? (i := 131) rfl) rfl
theorem zm_2_132 : (Jvm.Cond.code ({ cls := "FlexibleBoxes$Box", name := "margins", desc := "()I" } : Jvm.MethodName) prog_2_method_13_code (1 : Nat) (Option.some Jvm.ClassFile.FieldType.int)) ∈ zU := zin2 (List.mem_of_getElem? (i := 132) rfl) rfl
theorem zm_2_133 : (Jvm.Cond.methodLink "FlexibleBoxes$Layout" (108 : Nat) ({ cls := "java/lang/Math", name := "max", desc := "(II)I" } : Jvm.MethodName)) ∈ zU := zin2 (List.mem_of_getElem? (i := 133) rfl) rfl
theorem zm_2_134 : (Jvm.Cond.static ({ cls := "java/lang/Math", name := "max", desc := "(II)I" } : Jvm.MethodName)) ∈ zU := zin2 (List.mem_of_getElem? (i := 134) rfl) rfl
theorem zm_2_135 : (Jvm.Cond.code ({ cls := "java/lang/Math", name := "max", desc := "(II)I" } : Jvm.MethodName) prog_13_method_65_code (2 : Nat) (Option.some Jvm.ClassFile.FieldType.int)) ∈ zU := zin2 (List.mem_of_getElem? (i := 135) rfl) rfl
theorem zm_2_136 : (Jvm.Cond.methodLink "FlexibleBoxes$Layout" (64 : Nat) ({ cls := "FlexibleBoxes$Box", name := "isColumn", desc := "()Z" } : Jvm.MethodName)) ∈ zU := zin2 (List.mem_of_getElem? (i := 136) rfl) rfl
theorem zm_2_137 : (Jvm.Cond.instanceMethod ({ cls := "FlexibleBoxes$Box", name := "isColumn", desc := "()Z" } : Jvm.MethodName)) ∈ zU := zin2 (List.mem_of_getElem? (i := 137) rfl) rfl
theorem zm_2_138 : (Jvm.Cond.selects "FlexibleBoxes$Box" ({ cls := "FlexibleBoxes$Box", name := "isColumn", desc := "()Z" } : Jvm.MethodName) ({ cls := "FlexibleBoxes$Box", name := "isColumn", desc := "()Z" } : Jvm.MethodName)) ∈ zU := zin2 (List.mem_of_getElem? (i := 138) rfl) rfl
theorem zm_2_139 : (Jvm.Cond.code ({ cls := "FlexibleBoxes$Box", name := "isColumn", desc := "()Z" } : Jvm.MethodName) prog_2_method_7_code (1 : Nat) (Option.some Jvm.ClassFile.FieldType.boolean)) ∈ zU := zin2 (List.mem_of_getElem? (i := 139) rfl) rfl
theorem zm_2_140 : (Jvm.Cond.methodLink "FlexibleBoxes$Layout" (85 : Nat) ({ cls := "FlexibleBoxes$Box", name := "limitWidth", desc := "(I)I" } : Jvm.MethodName)) ∈ zU := zin2 (List.mem_of_getElem? (i := 140) rfl) rfl
theorem zm_2_141 : (Jvm.Cond.instanceMethod ({ cls := "FlexibleBoxes$Box", name := "limitWidth", desc := "(I)I" } : Jvm.MethodName)) ∈ zU := zin2 (List.mem_of_getElem? (i := 141) rfl) rfl
theorem zm_2_142 : (Jvm.Cond.selects "FlexibleBoxes$Box" ({ cls := "FlexibleBoxes$Box", name := "limitWidth", desc := "(I)I" } : Jvm.MethodName) ({ cls := "FlexibleBoxes$Box", name := "limitWidth", desc := "(I)I" } : Jvm.MethodName)) ∈ zU := zin2 (List.mem_of_getElem? (i := 142) rfl) rfl
theorem zm_2_143 : (Jvm.Cond.code ({ cls := "FlexibleBoxes$Box", name := "limitWidth", desc := "(I)I" } : Jvm.MethodName) prog_2_method_14_code (2 : Nat) (Option.some Jvm.ClassFile.FieldType.int)) ∈ zU := zin2 (List.mem_of_getElem? (i := 143) rfl) rfl
theorem zm_2_145 : (Jvm.Cond.static ({ cls := "FlexibleBoxes", name := "limited", desc := "(III)I" } : Jvm.MethodName)) ∈ zU := zin2 (List.mem_of_getElem? (i := 145) rfl) rfl
theorem zm_2_146 : (Jvm.Cond.code ({ cls := "FlexibleBoxes", name := "limited", desc := "(III)I" } : Jvm.MethodName) prog_1_method_28_code (4 : Nat) (Option.some Jvm.ClassFile.FieldType.int)) ∈ zU := zin2 (List.mem_of_getElem? (i := 146) rfl) rfl
theorem zm_2_147 : (Jvm.Cond.methodLink "FlexibleBoxes$Layout" (52 : Nat) ({ cls := "FlexibleBoxes$Layout", name := "spreadWidths", desc := "(LFlexibleBoxes$Box;)V" } : Jvm.MethodName)) ∈ zU := zin2 (List.mem_of_getElem? (i := 147) rfl) rfl
theorem zm_2_149 : (Jvm.Cond.instanceMethod ({ cls := "FlexibleBoxes$Layout", name := "spreadWidths", desc := "(LFlexibleBoxes$Box;)V" } : Jvm.MethodName)) ∈ zU := zin2 (List.mem_of_getElem? (i := 149) rfl) rfl
theorem zm_2_150 : (Jvm.Cond.code ({ cls := "FlexibleBoxes$Layout", name := "spreadWidths", desc := "(LFlexibleBoxes$Box;)V" } : Jvm.MethodName) prog_4_method_5_code (5 : Nat) (Option.none : Option Jvm.ClassFile.FieldType)) ∈ zU := zin2 (List.mem_of_getElem? (i := 150) rfl) rfl
theorem zm_2_151 : (Jvm.Cond.methodLink "FlexibleBoxes$Layout" (116 : Nat) ({ cls := "FlexibleBoxes$Layout", name := "spreadColumn", desc := "(LFlexibleBoxes$Box;)V" } : Jvm.MethodName)) ∈ zU := zin2 (List.mem_of_getElem? (i := 151) rfl) rfl
theorem zm_2_152 : (Jvm.Cond.static ({ cls := "FlexibleBoxes$Layout", name := "spreadColumn", desc := "(LFlexibleBoxes$Box;)V" } : Jvm.MethodName)) ∈ zU := zin2 (List.mem_of_getElem? (i := 152) rfl) rfl
theorem zm_2_153 : (Jvm.Cond.code ({ cls := "FlexibleBoxes$Layout", name := "spreadColumn", desc := "(LFlexibleBoxes$Box;)V" } : Jvm.MethodName) prog_4_method_6_code (5 : Nat) (Option.none : Option Jvm.ClassFile.FieldType)) ∈ zU := zin2 (List.mem_of_getElem? (i := 153) rfl) rfl
theorem zm_2_154 : (Jvm.Cond.methodLink "FlexibleBoxes$Layout" (129 : Nat) ({ cls := "FlexibleBoxes$Box", name := "innerWidth", desc := "()I" } : Jvm.MethodName)) ∈ zU := zin2 (List.mem_of_getElem? (i := 154) rfl) rfl
theorem zm_2_155 : (Jvm.Cond.instanceMethod ({ cls := "FlexibleBoxes$Box", name := "innerWidth", desc := "()I" } : Jvm.MethodName)) ∈ zU := zin2 (List.mem_of_getElem? (i := 155) rfl) rfl
theorem zm_2_156 : (Jvm.Cond.selects "FlexibleBoxes$Box" ({ cls := "FlexibleBoxes$Box", name := "innerWidth", desc := "()I" } : Jvm.MethodName) ({ cls := "FlexibleBoxes$Box", name := "innerWidth", desc := "()I" } : Jvm.MethodName)) ∈ zU := zin2 (List.mem_of_getElem? (i := 156) rfl) rfl
theorem zm_2_157 : (Jvm.Cond.code ({ cls := "FlexibleBoxes$Box", name := "innerWidth", desc := "()I" } : Jvm.MethodName) prog_2_method_11_code (1 : Nat) (Option.some Jvm.ClassFile.FieldType.int)) ∈ zU := zin2 (List.mem_of_getElem? (i := 157) rfl) rfl
theorem zm_2_158 : (Jvm.Cond.methodLink "FlexibleBoxes$Box" (56 : Nat) ({ cls := "java/lang/Math", name := "max", desc := "(II)I" } : Jvm.MethodName)) ∈ zU := zin2 (List.mem_of_getElem? (i := 158) rfl) rfl
theorem zm_2_159 : (Jvm.Cond.methodLink "FlexibleBoxes$Layout" (136 : Nat) ({ cls := "FlexibleBoxes$Box", name := "alignment", desc := "()I" } : Jvm.MethodName)) ∈ zU := zin2 (List.mem_of_getElem? (i := 159) rfl) rfl
theorem zm_2_160 : (Jvm.Cond.instanceMethod ({ cls := "FlexibleBoxes$Box", name := "alignment", desc := "()I" } : Jvm.MethodName)) ∈ zU := zin2 (List.mem_of_getElem? (i := 160) rfl) rfl
theorem zm_2_161 : (Jvm.Cond.selects "FlexibleBoxes$Box" ({ cls := "FlexibleBoxes$Box", name := "alignment", desc := "()I" } : Jvm.MethodName) ({ cls := "FlexibleBoxes$Box", name := "alignment", desc := "()I" } : Jvm.MethodName)) ∈ zU := zin2 (List.mem_of_getElem? (i := 161) rfl) rfl
theorem zm_2_162 : (Jvm.Cond.code ({ cls := "FlexibleBoxes$Box", name := "alignment", desc := "()I" } : Jvm.MethodName) prog_2_method_17_code (1 : Nat) (Option.some Jvm.ClassFile.FieldType.int)) ∈ zU := zin2 (List.mem_of_getElem? (i := 162) rfl) rfl
theorem zm_2_163 : (Jvm.Cond.methodLink "FlexibleBoxes$Layout" (139 : Nat) ({ cls := "java/lang/Math", name := "min", desc := "(II)I" } : Jvm.MethodName)) ∈ zU := zin2 (List.mem_of_getElem? (i := 163) rfl) rfl
theorem zm_2_164 : (Jvm.Cond.static ({ cls := "java/lang/Math", name := "min", desc := "(II)I" } : Jvm.MethodName)) ∈ zU := zin2 (List.mem_of_getElem? (i := 164) rfl) rfl
theorem zm_2_165 : (Jvm.Cond.code ({ cls := "java/lang/Math", name := "min", desc := "(II)I" } : Jvm.MethodName) prog_13_method_69_code (2 : Nat) (Option.some Jvm.ClassFile.FieldType.int)) ∈ zU := zin2 (List.mem_of_getElem? (i := 165) rfl) rfl
theorem zm_2_166 : (Jvm.Cond.methodLink "FlexibleBoxes$Layout" (119 : Nat) ({ cls := "FlexibleBoxes$Layout", name := "breakLines", desc := "(LFlexibleBoxes$Box;)V" } : Jvm.MethodName)) ∈ zU := zin2 (List.mem_of_getElem? (i := 166) rfl) rfl
theorem zm_2_167 : (Jvm.Cond.static ({ cls := "FlexibleBoxes$Layout", name := "breakLines", desc := "(LFlexibleBoxes$Box;)V" } : Jvm.MethodName)) ∈ zU := zin2 (List.mem_of_getElem? (i := 167) rfl) rfl
theorem zm_2_168 : (Jvm.Cond.code ({ cls := "FlexibleBoxes$Layout", name := "breakLines", desc := "(LFlexibleBoxes$Box;)V" } : Jvm.MethodName) prog_4_method_7_code (5 : Nat) (Option.none : Option Jvm.ClassFile.FieldType)) ∈ zU := zin2 (List.mem_of_getElem? (i := 168) rfl) rfl
theorem zm_2_169 : (Jvm.Cond.methodLink "FlexibleBoxes$Layout" (145 : Nat) ({ cls := "FlexibleBoxes$Flex", name := "baseOf", desc := "(LFlexibleBoxes$Box;Z)I" } : Jvm.MethodName)) ∈ zU := zin2 (List.mem_of_getElem? (i := 169) rfl) rfl
theorem zm_2_170 : (Jvm.Cond.static ({ cls := "FlexibleBoxes$Flex", name := "baseOf", desc := "(LFlexibleBoxes$Box;Z)I" } : Jvm.MethodName)) ∈ zU := zin2 (List.mem_of_getElem? (i := 170) rfl) rfl
theorem zm_2_171 : (Jvm.Cond.code ({ cls := "FlexibleBoxes$Flex", name := "baseOf", desc := "(LFlexibleBoxes$Box;Z)I" } : Jvm.MethodName) prog_3_method_4_code (2 : Nat) (Option.some Jvm.ClassFile.FieldType.int)) ∈ zU := zin2 (List.mem_of_getElem? (i := 171) rfl) rfl
theorem zm_2_172 : (Jvm.Cond.methodLink "FlexibleBoxes$Flex" (51 : Nat) ({ cls := "FlexibleBoxes$Box", name := "of", desc := "(I)I" } : Jvm.MethodName)) ∈ zU := zin2 (List.mem_of_getElem? (i := 172) rfl) rfl
theorem zm_2_173 : (Jvm.Cond.methodLink "FlexibleBoxes$Layout" (149 : Nat) ({ cls := "FlexibleBoxes$Box", name := "wraps", desc := "()Z" } : Jvm.MethodName)) ∈ zU := zin2 (List.mem_of_getElem? (i := 173) rfl) rfl
theorem zm_2_174 : (Jvm.Cond.instanceMethod ({ cls := "FlexibleBoxes$Box", name := "wraps", desc := "()Z" } : Jvm.MethodName)) ∈ zU := zin2 (List.mem_of_getElem? (i := 174) rfl) rfl
theorem zm_2_175 : (Jvm.Cond.selects "FlexibleBoxes$Box" ({ cls := "FlexibleBoxes$Box", name := "wraps", desc := "()Z" } : Jvm.MethodName) ({ cls := "FlexibleBoxes$Box", name := "wraps", desc := "()Z" } : Jvm.MethodName)) ∈ zU := zin2 (List.mem_of_getElem? (i := 175) rfl) rfl
theorem zm_2_176 : (Jvm.Cond.code ({ cls := "FlexibleBoxes$Box", name := "wraps", desc := "()Z" } : Jvm.MethodName) prog_2_method_8_code (1 : Nat) (Option.some Jvm.ClassFile.FieldType.boolean)) ∈ zU := zin2 (List.mem_of_getElem? (i := 176) rfl) rfl
theorem zm_2_177 : (Jvm.Cond.methodLink "FlexibleBoxes$Layout" (125 : Nat) ({ cls := "FlexibleBoxes$Layout", name := "lineEnd", desc := "(LFlexibleBoxes$Box;)LFlexibleBoxes$Box;" } : Jvm.MethodName)) ∈ zU := zin2 (List.mem_of_getElem? (i := 177) rfl) rfl
theorem zm_2_178 : (Jvm.Cond.static ({ cls := "FlexibleBoxes$Layout", name := "lineEnd", desc := "(LFlexibleBoxes$Box;)LFlexibleBoxes$Box;" } : Jvm.MethodName)) ∈ zU := zin2 (List.mem_of_getElem? (i := 178) rfl) rfl
theorem zm_2_179 : (Jvm.Cond.code ({ cls := "FlexibleBoxes$Layout", name := "lineEnd", desc := "(LFlexibleBoxes$Box;)LFlexibleBoxes$Box;" } : Jvm.MethodName) prog_4_method_8_code (2 : Nat) (Option.some (Jvm.ClassFile.FieldType.object "FlexibleBoxes$Box"))) ∈ zU := zin2 (List.mem_of_getElem? (i := 179) rfl) rfl
theorem zm_2_180 : (Jvm.Cond.methodLink "FlexibleBoxes$Layout" (132 : Nat) ({ cls := "FlexibleBoxes$Layout", name := "flexKids", desc := "(LFlexibleBoxes$Box;LFlexibleBoxes$Box;ZII)V" } : Jvm.MethodName)) ∈ zU := zin2 (List.mem_of_getElem? (i := 180) rfl) rfl
theorem zm_2_182 : (Jvm.Cond.instanceMethod ({ cls := "FlexibleBoxes$Layout", name := "flexKids", desc := "(LFlexibleBoxes$Box;LFlexibleBoxes$Box;ZII)V" } : Jvm.MethodName)) ∈ zU := zin2 (List.mem_of_getElem? (i := 182) rfl) rfl
theorem zm_2_183 : (Jvm.Cond.code ({ cls := "FlexibleBoxes$Layout", name := "flexKids", desc := "(LFlexibleBoxes$Box;LFlexibleBoxes$Box;ZII)V" } : Jvm.MethodName) prog_4_method_9_code (8 : Nat) (Option.none : Option Jvm.ClassFile.FieldType)) ∈ zU := zin2 (List.mem_of_getElem? (i := 183) rfl) rfl
theorem zm_2_184 : (Jvm.Cond.methodLink "FlexibleBoxes$Layout" (152 : Nat) ({ cls := "FlexibleBoxes$Flex", name := "clear", desc := "()V" } : Jvm.MethodName)) ∈ zU := zin2 (List.mem_of_getElem? (i := 184) rfl) rfl
theorem zm_2_185 : (Jvm.Cond.instanceMethod ({ cls := "FlexibleBoxes$Flex", name := "clear", desc := "()V" } : Jvm.MethodName)) ∈ zU := zin2 (List.mem_of_getElem? (i := 185) rfl) rfl
theorem zm_2_186 : (Jvm.Cond.selects "FlexibleBoxes$Flex" ({ cls := "FlexibleBoxes$Flex", name := "clear", desc := "()V" } : Jvm.MethodName) ({ cls := "FlexibleBoxes$Flex", name := "clear", desc := "()V" } : Jvm.MethodName)) ∈ zU := zin2 (List.mem_of_getElem? (i := 186) rfl) rfl
theorem zm_2_187 : (Jvm.Cond.code ({ cls := "FlexibleBoxes$Flex", name := "clear", desc := "()V" } : Jvm.MethodName) prog_3_method_2_code (1 : Nat) (Option.none : Option Jvm.ClassFile.FieldType)) ∈ zU := zin2 (List.mem_of_getElem? (i := 187) rfl) rfl
theorem zm_2_188 : (Jvm.Cond.methodLink "FlexibleBoxes$Layout" (155 : Nat) ({ cls := "FlexibleBoxes$Flex", name := "put", desc := "(LFlexibleBoxes$Box;Z)V" } : Jvm.MethodName)) ∈ zU := zin2 (List.mem_of_getElem? (i := 188) rfl) rfl
theorem zm_2_189 : (Jvm.Cond.instanceMethod ({ cls := "FlexibleBoxes$Flex", name := "put", desc := "(LFlexibleBoxes$Box;Z)V" } : Jvm.MethodName)) ∈ zU := zin2 (List.mem_of_getElem? (i := 189) rfl) rfl
theorem zm_2_190 : (Jvm.Cond.selects "FlexibleBoxes$Flex" ({ cls := "FlexibleBoxes$Flex", name := "put", desc := "(LFlexibleBoxes$Box;Z)V" } : Jvm.MethodName) ({ cls := "FlexibleBoxes$Flex", name := "put", desc := "(LFlexibleBoxes$Box;Z)V" } : Jvm.MethodName)) ∈ zU := zin2 (List.mem_of_getElem? (i := 190) rfl) rfl
theorem zm_2_191 : (Jvm.Cond.code ({ cls := "FlexibleBoxes$Flex", name := "put", desc := "(LFlexibleBoxes$Box;Z)V" } : Jvm.MethodName) prog_3_method_3_code (3 : Nat) (Option.none : Option Jvm.ClassFile.FieldType)) ∈ zU := zin2 (List.mem_of_getElem? (i := 191) rfl) rfl
theorem zm_2_192 : (Jvm.Cond.methodLink "FlexibleBoxes$Flex" (47 : Nat) ({ cls := "FlexibleBoxes$Flex", name := "baseOf", desc := "(LFlexibleBoxes$Box;Z)I" } : Jvm.MethodName)) ∈ zU := zin2 (List.mem_of_getElem? (i := 192) rfl) rfl
theorem zm_2_193 : (Jvm.Cond.methodLink "FlexibleBoxes$Flex" (57 : Nat) ({ cls := "FlexibleBoxes$Box", name := "margins", desc := "()I" } : Jvm.MethodName)) ∈ zU := zin2 (List.mem_of_getElem? (i := 193) rfl) rfl
theorem zm_2_194 : (Jvm.Cond.methodLink "FlexibleBoxes$Layout" (159 : Nat) ({ cls := "FlexibleBoxes$Flex", name := "share", desc := "(II)V" } : Jvm.MethodName)) ∈ zU := zin2 (List.mem_of_getElem? (i := 194) rfl) rfl
theorem zm_2_195 : (Jvm.Cond.instanceMethod ({ cls := "FlexibleBoxes$Flex", name := "share", desc := "(II)V" } : Jvm.MethodName)) ∈ zU := zin2 (List.mem_of_getElem? (i := 195) rfl) rfl
theorem zm_2_196 : (Jvm.Cond.selects "FlexibleBoxes$Flex" ({ cls := "FlexibleBoxes$Flex", name := "share", desc := "(II)V" } : Jvm.MethodName) ({ cls := "FlexibleBoxes$Flex", name := "share", desc := "(II)V" } : Jvm.MethodName)) ∈ zU := zin2 (List.mem_of_getElem? (i := 196) rfl) rfl
theorem zm_2_197 : (Jvm.Cond.code ({ cls := "FlexibleBoxes$Flex", name := "share", desc := "(II)V" } : Jvm.MethodName) prog_3_method_6_code (9 : Nat) (Option.none : Option Jvm.ClassFile.FieldType)) ∈ zU := zin2 (List.mem_of_getElem? (i := 197) rfl) rfl
theorem zm_2_199 : (Jvm.Cond.methodLink "FlexibleBoxes$Flex" (70 : Nat) ({ cls := "FlexibleBoxes$Flex", name := "begin", desc := "()I" } : Jvm.MethodName)) ∈ zU := zin2 (List.mem_of_getElem? (i := 199) rfl) rfl
theorem zm_2_201 : (Jvm.Cond.instanceMethod ({ cls := "FlexibleBoxes$Flex", name := "begin", desc := "()I" } : Jvm.MethodName)) ∈ zU := zin2 (List.mem_of_getElem? (i := 201) rfl) rfl
theorem zm_2_202 : (Jvm.Cond.code ({ cls := "FlexibleBoxes$Flex", name := "begin", desc := "()I" } : Jvm.MethodName) prog_3_method_7_code (3 : Nat) (Option.some Jvm.ClassFile.FieldType.int)) ∈ zU := zin2 (List.mem_of_getElem? (i := 202) rfl) rfl
theorem zm_2_204 : (Jvm.Cond.methodLink "FlexibleBoxes$Flex" (73 : Nat) ({ cls := "FlexibleBoxes$Flex", name := "openFactors", desc := "()J" } : Jvm.MethodName)) ∈ zU := zin2 (List.mem_of_getElem? (i := 204) rfl) rfl
theorem zm_2_206 : (Jvm.Cond.instanceMethod ({ cls := "FlexibleBoxes$Flex", name := "openFactors", desc := "()J" } : Jvm.MethodName)) ∈ zU := zin2 (List.mem_of_getElem? (i := 206) rfl) rfl
theorem zm_2_207 : (Jvm.Cond.code ({ cls := "FlexibleBoxes$Flex", name := "openFactors", desc := "()J" } : Jvm.MethodName) prog_3_method_9_code (4 : Nat) (Option.some Jvm.ClassFile.FieldType.long)) ∈ zU := zin2 (List.mem_of_getElem? (i := 207) rfl) rfl
theorem zm_2_208 : (Jvm.Cond.methodLink "FlexibleBoxes$Flex" (77 : Nat) ({ cls := "FlexibleBoxes$Flex", name := "restOf", desc := "(I)I" } : Jvm.MethodName)) ∈ zU := zin2 (List.mem_of_getElem? (i := 208) rfl) rfl
theorem zm_2_210 : (Jvm.Cond.instanceMethod ({ cls := "FlexibleBoxes$Flex", name := "restOf", desc := "(I)I" } : Jvm.MethodName)) ∈ zU := zin2 (List.mem_of_getElem? (i := 210) rfl) rfl
theorem zm_2_211 : (Jvm.Cond.code ({ cls := "FlexibleBoxes$Flex", name := "restOf", desc := "(I)I" } : Jvm.MethodName) prog_3_method_8_code (4 : Nat) (Option.some Jvm.ClassFile.FieldType.int)) ∈ zU := zin2 (List.mem_of_getElem? (i := 211) rfl) rfl
theorem zm_2_212 : (Jvm.Cond.methodLink "FlexibleBoxes$Flex" (80 : Nat) ({ cls := "java/lang/Math", name := "max", desc := "(II)I" } : Jvm.MethodName)) ∈ zU := zin2 (List.mem_of_getElem? (i := 212) rfl) rfl
theorem zm_2_213 : (Jvm.Cond.methodLink "FlexibleBoxes$Flex" (85 : Nat) ({ cls := "FlexibleBoxes$Flex", name := "propose", desc := "(JJZ)J" } : Jvm.MethodName)) ∈ zU := zin2 (List.mem_of_getElem? (i := 213) rfl) rfl
theorem zm_2_215 : (Jvm.Cond.instanceMethod ({ cls := "FlexibleBoxes$Flex", name := "propose", desc := "(JJZ)J" } : Jvm.MethodName)) ∈ zU := zin2 (List.mem_of_getElem? (i := 215) rfl) rfl
theorem zm_2_216 : (Jvm.Cond.code ({ cls := "FlexibleBoxes$Flex", name := "propose", desc := "(JJZ)J" } : Jvm.MethodName) prog_3_method_10_code (17 : Nat) (Option.some Jvm.ClassFile.FieldType.long)) ∈ zU := zin2 (List.mem_of_getElem? (i := 216) rfl) rfl
theorem zm_2_217 : (Jvm.Cond.methodLink "FlexibleBoxes$Flex" (89 : Nat) ({ cls := "FlexibleBoxes$Flex", name := "settle", desc := "(J)V" } : Jvm.MethodName)) ∈ zU := zin2 (List.mem_of_getElem? (i := 217) rfl) rfl
theorem zm_2_219 : (Jvm.Cond.instanceMethod ({ cls := "FlexibleBoxes$Flex", name := "settle", desc := "(J)V" } : Jvm.MethodName)) ∈ zU := zin2 (List.mem_of_getElem? (i := 219) rfl) rfl
theorem zm_2_220 : (Jvm.Cond.code ({ cls := "FlexibleBoxes$Flex", name := "settle", desc := "(J)V" } : Jvm.MethodName) prog_3_method_11_code (5 : Nat) (Option.none : Option Jvm.ClassFile.FieldType)) ∈ zU := zin2 (List.mem_of_getElem? (i := 220) rfl) rfl
theorem zm_2_221 : (Jvm.Cond.methodLink "FlexibleBoxes$Layout" (163 : Nat) ({ cls := "FlexibleBoxes$Flex", name := "sizeAt", desc := "(I)I" } : Jvm.MethodName)) ∈ zU := zin2 (List.mem_of_getElem? (i := 221) rfl) rfl
theorem zm_2_222 : (Jvm.Cond.instanceMethod ({ cls := "FlexibleBoxes$Flex", name := "sizeAt", desc := "(I)I" } : Jvm.MethodName)) ∈ zU := zin2 (List.mem_of_getElem? (i := 222) rfl) rfl
theorem zm_2_223 : (Jvm.Cond.selects "FlexibleBoxes$Flex" ({ cls := "FlexibleBoxes$Flex", name := "sizeAt", desc := "(I)I" } : Jvm.MethodName) ({ cls := "FlexibleBoxes$Flex", name := "sizeAt", desc := "(I)I" } : Jvm.MethodName)) ∈ zU := zin2 (List.mem_of_getElem? (i := 223) rfl) rfl
theorem zm_2_224 : (Jvm.Cond.code ({ cls := "FlexibleBoxes$Flex", name := "sizeAt", desc := "(I)I" } : Jvm.MethodName) prog_3_method_5_code (2 : Nat) (Option.some Jvm.ClassFile.FieldType.int)) ∈ zU := zin2 (List.mem_of_getElem? (i := 224) rfl) rfl
theorem zm_2_225 : (Jvm.Cond.methodLink "FlexibleBoxes$Layout" (55 : Nat) ({ cls := "FlexibleBoxes$Layout", name := "measureHeight", desc := "(LFlexibleBoxes$Box;)V" } : Jvm.MethodName)) ∈ zU := zin2 (List.mem_of_getElem? (i := 225) rfl) rfl
theorem zm_2_226 : (Jvm.Cond.static ({ cls := "FlexibleBoxes$Layout", name := "measureHeight", desc := "(LFlexibleBoxes$Box;)V" } : Jvm.MethodName)) ∈ zU := zin2 (List.mem_of_getElem? (i := 226) rfl) rfl
theorem zm_2_227 : (Jvm.Cond.code ({ cls := "FlexibleBoxes$Layout", name := "measureHeight", desc := "(LFlexibleBoxes$Box;)V" } : Jvm.MethodName) prog_4_method_10_code (2 : Nat) (Option.none : Option Jvm.ClassFile.FieldType)) ∈ zU := zin2 (List.mem_of_getElem? (i := 227) rfl) rfl
theorem zm_2_228 : (Jvm.Cond.methodLink "FlexibleBoxes$Layout" (166 : Nat) ({ cls := "FlexibleBoxes$Box", name := "textLines", desc := "()I" } : Jvm.MethodName)) ∈ zU := zin2 (List.mem_of_getElem? (i := 228) rfl) rfl
theorem zm_2_229 : (Jvm.Cond.instanceMethod ({ cls := "FlexibleBoxes$Box", name := "textLines", desc := "()I" } : Jvm.MethodName)) ∈ zU := zin2 (List.mem_of_getElem? (i := 229) rfl) rfl
theorem zm_2_230 : (Jvm.Cond.selects "FlexibleBoxes$Box" ({ cls := "FlexibleBoxes$Box", name := "textLines", desc := "()I" } : Jvm.MethodName) ({ cls := "FlexibleBoxes$Box", name := "textLines", desc := "()I" } : Jvm.MethodName)) ∈ zU := zin2 (List.mem_of_getElem? (i := 230) rfl) rfl
theorem zm_2_231 : (Jvm.Cond.code ({ cls := "FlexibleBoxes$Box", name := "textLines", desc := "()I" } : Jvm.MethodName) prog_2_method_18_code (2 : Nat) (Option.some Jvm.ClassFile.FieldType.int)) ∈ zU := zin2 (List.mem_of_getElem? (i := 231) rfl) rfl
theorem zm_2_232 : (Jvm.Cond.methodLink "FlexibleBoxes$Box" (73 : Nat) ({ cls := "FlexibleBoxes$Box", name := "innerWidth", desc := "()I" } : Jvm.MethodName)) ∈ zU := zin2 (List.mem_of_getElem? (i := 232) rfl) rfl
theorem zm_2_233 : (Jvm.Cond.methodLink "FlexibleBoxes$Layout" (169 : Nat) ({ cls := "FlexibleBoxes$Layout", name := "contentHeight", desc := "(LFlexibleBoxes$Box;)I" } : Jvm.MethodName)) ∈ zU := zin2 (List.mem_of_getElem? (i := 233) rfl) rfl
theorem zm_2_234 : (Jvm.Cond.static ({ cls := "FlexibleBoxes$Layout", name := "contentHeight", desc := "(LFlexibleBoxes$Box;)I" } : Jvm.MethodName)) ∈ zU := zin2 (List.mem_of_getElem? (i := 234) rfl) rfl
theorem zm_2_235 : (Jvm.Cond.code ({ cls := "FlexibleBoxes$Layout", name := "contentHeight", desc := "(LFlexibleBoxes$Box;)I" } : Jvm.MethodName) prog_4_method_11_code (5 : Nat) (Option.some Jvm.ClassFile.FieldType.int)) ∈ zU := zin2 (List.mem_of_getElem? (i := 235) rfl) rfl
theorem zm_2_236 : (Jvm.Cond.methodLink "FlexibleBoxes$Layout" (178 : Nat) ({ cls := "FlexibleBoxes$Layout", name := "lineHeight", desc := "(LFlexibleBoxes$Box;LFlexibleBoxes$Box;)I" } : Jvm.MethodName)) ∈ zU := zin2 (List.mem_of_getElem? (i := 236) rfl) rfl
theorem zm_2_237 : (Jvm.Cond.static ({ cls := "FlexibleBoxes$Layout", name := "lineHeight", desc := "(LFlexibleBoxes$Box;LFlexibleBoxes$Box;)I" } : Jvm.MethodName)) ∈ zU := zin2 (List.mem_of_getElem? (i := 237) rfl) rfl
theorem zm_2_238 : (Jvm.Cond.code ({ cls := "FlexibleBoxes$Layout", name := "lineHeight", desc := "(LFlexibleBoxes$Box;LFlexibleBoxes$Box;)I" } : Jvm.MethodName) prog_4_method_12_code (4 : Nat) (Option.some Jvm.ClassFile.FieldType.int)) ∈ zU := zin2 (List.mem_of_getElem? (i := 238) rfl) rfl
theorem zm_2_239 : (Jvm.Cond.methodLink "FlexibleBoxes$Layout" (172 : Nat) ({ cls := "FlexibleBoxes$Box", name := "limitHeight", desc := "(I)I" } : Jvm.MethodName)) ∈ zU := zin2 (List.mem_of_getElem? (i := 239) rfl) rfl
theorem zm_3_0 : (Jvm.Cond.instanceMethod ({ cls := "FlexibleBoxes$Box", name := "limitHeight", desc := "(I)I" } : Jvm.MethodName)) ∈ zU := zin3 (List.mem_of_getElem? (i := 0) rfl) rfl
theorem zm_3_1 : (Jvm.Cond.selects "FlexibleBoxes$Box" ({ cls := "FlexibleBoxes$Box", name := "limitHeight", desc := "(I)I" } : Jvm.MethodName) ({ cls := "FlexibleBoxes$Box", name := "limitHeight", desc := "(I)I" } : Jvm.MethodName)) ∈ zU := zin3 (List.mem_of_getElem? (i := 1) rfl) rfl
theorem zm_3_2 : (Jvm.Cond.code ({ cls := "FlexibleBoxes$Box", name := "limitHeight", desc := "(I)I" } : Jvm.MethodName) prog_2_method_15_code (2 : Nat) (Option.some Jvm.ClassFile.FieldType.int)) ∈ zU := zin3 (List.mem_of_getElem? (i := 2) rfl) rfl
theorem zm_3_3 : (Jvm.Cond.methodLink "FlexibleBoxes$Layout" (68 : Nat) ({ cls := "FlexibleBoxes$Layout", name := "placeColumn", desc := "(LFlexibleBoxes$Box;)V" } : Jvm.MethodName)) ∈ zU := zin3 (List.mem_of_getElem? (i := 3) rfl) rfl
theorem zm_3_5 : (Jvm.Cond.instanceMethod ({ cls := "FlexibleBoxes$Layout", name := "placeColumn", desc := "(LFlexibleBoxes$Box;)V" } : Jvm.MethodName)) ∈ zU := zin3 (List.mem_of_getElem? (i := 5) rfl) rfl
theorem zm_3_6 : (Jvm.Cond.code ({ cls := "FlexibleBoxes$Layout", name := "placeColumn", desc := "(LFlexibleBoxes$Box;)V" } : Jvm.MethodName) prog_4_method_14_code (8 : Nat) (Option.none : Option Jvm.ClassFile.FieldType)) ∈ zU := zin3 (List.mem_of_getElem? (i := 6) rfl) rfl
theorem zm_3_7 : (Jvm.Cond.methodLink "FlexibleBoxes$Layout" (185 : Nat) ({ cls := "FlexibleBoxes$Box", name := "innerHeight", desc := "()I" } : Jvm.MethodName)) ∈ zU := zin3 (List.mem_of_getElem? (i := 7) rfl) rfl
theorem zm_3_8 : (Jvm.Cond.instanceMethod ({ cls := "FlexibleBoxes$Box", name := "innerHeight", desc := "()I" } : Jvm.MethodName)) ∈ zU := zin3 (List.mem_of_getElem? (i := 8) rfl) rfl
theorem zm_3_9 : (Jvm.Cond.selects "FlexibleBoxes$Box" ({ cls := "FlexibleBoxes$Box", name := "innerHeight", desc := "()I" } : Jvm.MethodName) ({ cls := "FlexibleBoxes$Box", name := "innerHeight", desc := "()I" } : Jvm.MethodName)) ∈ zU := zin3 (List.mem_of_getElem? (i := 9) rfl) rfl
theorem zm_3_10 : (Jvm.Cond.code ({ cls := "FlexibleBoxes$Box", name := "innerHeight", desc := "()I" } : Jvm.MethodName) prog_2_method_12_code (1 : Nat) (Option.some Jvm.ClassFile.FieldType.int)) ∈ zU := zin3 (List.mem_of_getElem? (i := 10) rfl) rfl
theorem zm_3_11 : (Jvm.Cond.methodLink "FlexibleBoxes$Layout" (195 : Nat) ({ cls := "FlexibleBoxes$Layout", name := "alignShift", desc := "(II)I" } : Jvm.MethodName)) ∈ zU := zin3 (List.mem_of_getElem? (i := 11) rfl) rfl
theorem zm_3_12 : (Jvm.Cond.static ({ cls := "FlexibleBoxes$Layout", name := "alignShift", desc := "(II)I" } : Jvm.MethodName)) ∈ zU := zin3 (List.mem_of_getElem? (i := 12) rfl) rfl
theorem zm_3_13 : (Jvm.Cond.code ({ cls := "FlexibleBoxes$Layout", name := "alignShift", desc := "(II)I" } : Jvm.MethodName) prog_4_method_18_code (2 : Nat) (Option.some Jvm.ClassFile.FieldType.int)) ∈ zU := zin3 (List.mem_of_getElem? (i := 13) rfl) rfl
theorem zm_3_14 : (Jvm.Cond.methodLink "FlexibleBoxes$Layout" (198 : Nat) ({ cls := "FlexibleBoxes$Layout", name := "justifyShift", desc := "(IIII)I" } : Jvm.MethodName)) ∈ zU := zin3 (List.mem_of_getElem? (i := 14) rfl) rfl
theorem zm_3_15 : (Jvm.Cond.static ({ cls := "FlexibleBoxes$Layout", name := "justifyShift", desc := "(IIII)I" } : Jvm.MethodName)) ∈ zU := zin3 (List.mem_of_getElem? (i := 15) rfl) rfl
theorem zm_3_16 : (Jvm.Cond.code ({ cls := "FlexibleBoxes$Layout", name := "justifyShift", desc := "(IIII)I" } : Jvm.MethodName) prog_4_method_17_code (4 : Nat) (Option.some Jvm.ClassFile.FieldType.int)) ∈ zU := zin3 (List.mem_of_getElem? (i := 16) rfl) rfl
theorem zm_3_17 : (Jvm.Cond.methodLink "FlexibleBoxes$Layout" (71 : Nat) ({ cls := "FlexibleBoxes$Layout", name := "placeRow", desc := "(LFlexibleBoxes$Box;)V" } : Jvm.MethodName)) ∈ zU := zin3 (List.mem_of_getElem? (i := 17) rfl) rfl
theorem zm_3_18 : (Jvm.Cond.static ({ cls := "FlexibleBoxes$Layout", name := "placeRow", desc := "(LFlexibleBoxes$Box;)V" } : Jvm.MethodName)) ∈ zU := zin3 (List.mem_of_getElem? (i := 18) rfl) rfl
theorem zm_3_19 : (Jvm.Cond.code ({ cls := "FlexibleBoxes$Layout", name := "placeRow", desc := "(LFlexibleBoxes$Box;)V" } : Jvm.MethodName) prog_4_method_13_code (6 : Nat) (Option.none : Option Jvm.ClassFile.FieldType)) ∈ zU := zin3 (List.mem_of_getElem? (i := 19) rfl) rfl
theorem zm_3_20 : (Jvm.Cond.methodLink "FlexibleBoxes$Layout" (188 : Nat) ({ cls := "FlexibleBoxes$Layout", name := "placeLine", desc := "(LFlexibleBoxes$Box;LFlexibleBoxes$Box;LFlexibleBoxes$Box;II)V" } : Jvm.MethodName)) ∈ zU := zin3 (List.mem_of_getElem? (i := 20) rfl) rfl
theorem zm_3_21 : (Jvm.Cond.static ({ cls := "FlexibleBoxes$Layout", name := "placeLine", desc := "(LFlexibleBoxes$Box;LFlexibleBoxes$Box;LFlexibleBoxes$Box;II)V" } : Jvm.MethodName)) ∈ zU := zin3 (List.mem_of_getElem? (i := 21) rfl) rfl
theorem zm_3_22 : (Jvm.Cond.code ({ cls := "FlexibleBoxes$Layout", name := "placeLine", desc := "(LFlexibleBoxes$Box;LFlexibleBoxes$Box;LFlexibleBoxes$Box;II)V" } : Jvm.MethodName) prog_4_method_15_code (11 : Nat) (Option.none : Option Jvm.ClassFile.FieldType)) ∈ zU := zin3 (List.mem_of_getElem? (i := 22) rfl) rfl
theorem zm_3_23 : (Jvm.Cond.methodLink "FlexibleBoxes$Layout" (202 : Nat) ({ cls := "FlexibleBoxes$Layout", name := "heightInLine", desc := "(LFlexibleBoxes$Box;I)I" } : Jvm.MethodName)) ∈ zU := zin3 (List.mem_of_getElem? (i := 23) rfl) rfl
theorem zm_3_24 : (Jvm.Cond.static ({ cls := "FlexibleBoxes$Layout", name := "heightInLine", desc := "(LFlexibleBoxes$Box;I)I" } : Jvm.MethodName)) ∈ zU := zin3 (List.mem_of_getElem? (i := 24) rfl) rfl
theorem zm_3_25 : (Jvm.Cond.code ({ cls := "FlexibleBoxes$Layout", name := "heightInLine", desc := "(LFlexibleBoxes$Box;I)I" } : Jvm.MethodName) prog_4_method_16_code (3 : Nat) (Option.some Jvm.ClassFile.FieldType.int)) ∈ zU := zin3 (List.mem_of_getElem? (i := 25) rfl) rfl
theorem zm_3_26 : (Jvm.Cond.methodLink "FlexibleBoxesLaw" (21 : Nat) ({ cls := "FlexibleBoxes", name := "set", desc := "(III)I" } : Jvm.MethodName)) ∈ zU := zin3 (List.mem_of_getElem? (i := 26) rfl) rfl
theorem zm_3_27 : (Jvm.Cond.instanceMethod ({ cls := "FlexibleBoxes", name := "set", desc := "(III)I" } : Jvm.MethodName)) ∈ zU := zin3 (List.mem_of_getElem? (i := 27) rfl) rfl
theorem zm_3_28 : (Jvm.Cond.selects "FlexibleBoxes" ({ cls := "FlexibleBoxes", name := "set", desc := "(III)I" } : Jvm.MethodName) ({ cls := "FlexibleBoxes", name := "set", desc := "(III)I" } : Jvm.MethodName)) ∈ zU := zin3 (List.mem_of_getElem? (i := 28) rfl) rfl
theorem zm_3_29 : (Jvm.Cond.code ({ cls := "FlexibleBoxes", name := "set", desc := "(III)I" } : Jvm.MethodName) prog_1_method_7_code (5 : Nat) (Option.some Jvm.ClassFile.FieldType.int)) ∈ zU := zin3 (List.mem_of_getElem? (i := 29) rfl) rfl
theorem zm_3_30 : (Jvm.Cond.methodLink "FlexibleBoxes" (91 : Nat) ({ cls := "FlexibleBoxes", name := "isProperty", desc := "(I)Z" } : Jvm.MethodName)) ∈ zU := zin3 (List.mem_of_getElem? (i := 30) rfl) rfl
theorem zm_3_31 : (Jvm.Cond.static ({ cls := "FlexibleBoxes", name := "isProperty", desc := "(I)Z" } : Jvm.MethodName)) ∈ zU := zin3 (List.mem_of_getElem? (i := 31) rfl) rfl
theorem zm_3_32 : (Jvm.Cond.code ({ cls := "FlexibleBoxes", name := "isProperty", desc := "(I)Z" } : Jvm.MethodName) prog_1_method_26_code (1 : Nat) (Option.some Jvm.ClassFile.FieldType.boolean)) ∈ zU := zin3 (List.mem_of_getElem? (i := 32) rfl) rfl
theorem zm_3_33 : (Jvm.Cond.classLink "FlexibleBoxes" (59 : Nat) "java/lang/IllegalArgumentException") ∈ zU := zin3 (List.mem_of_getElem? (i := 33) rfl) rfl
theorem zm_3_34 : (Jvm.Cond.instantiable "java/lang/IllegalArgumentException" (6 : Nat)) ∈ zU := zin3 (List.mem_of_getElem? (i := 34) rfl) rfl
theorem zm_3_36 : (Jvm.Cond.selects "java/lang/IllegalArgumentException" ({ cls := "java/lang/Throwable", name := "fillInStackTrace", desc := "(I)Ljava/lang/Throwable;" } : Jvm.MethodName) ({ cls := "java/lang/Throwable", name := "fillInStackTrace", desc := "(I)Ljava/lang/Throwable;" } : Jvm.MethodName)) ∈ zU := zin3 (List.mem_of_getElem? (i := 36) rfl) rfl
theorem zm_3_43 : (Jvm.Cond.methodLink "FlexibleBoxes" (63 : Nat) ({ cls := "java/lang/IllegalArgumentException", name := "<init>", desc := "(Ljava/lang/String;)V" } : Jvm.MethodName)) ∈ zU := zin3 (List.mem_of_getElem? (i := 43) rfl) rfl
theorem zm_3_44 : (Jvm.Cond.instanceMethod ({ cls := "java/lang/IllegalArgumentException", name := "<init>", desc := "(Ljava/lang/String;)V" } : Jvm.MethodName)) ∈ zU := zin3 (List.mem_of_getElem? (i := 44) rfl) rfl
theorem zm_3_45 : (Jvm.Cond.code ({ cls := "java/lang/IllegalArgumentException", name := "<init>", desc := "(Ljava/lang/String;)V" } : Jvm.MethodName) prog_10_method_2_code (2 : Nat) (Option.none : Option Jvm.ClassFile.FieldType)) ∈ zU := zin3 (List.mem_of_getElem? (i := 45) rfl) rfl
theorem zm_3_46 : (Jvm.Cond.methodLink "java/lang/IllegalArgumentException" (7 : Nat) ({ cls := "java/lang/RuntimeException", name := "<init>", desc := "(Ljava/lang/String;)V" } : Jvm.MethodName)) ∈ zU := zin3 (List.mem_of_getElem? (i := 46) rfl) rfl
theorem zm_3_49 : (Jvm.Cond.fieldLink "FlexibleBoxes" (97 : Nat) "FlexibleBoxes" "LEAST" "[I") ∈ zU := zin3 (List.mem_of_getElem? (i := 49) rfl) rfl
theorem zm_3_51 : (Jvm.Cond.fieldLink "FlexibleBoxes" (101 : Nat) "FlexibleBoxes" "GREATEST" "[I") ∈ zU := zin3 (List.mem_of_getElem? (i := 51) rfl) rfl
theorem zm_3_54 : (Jvm.Cond.methodLink "FlexibleBoxes" (106 : Nat) ({ cls := "FlexibleBoxes$Box", name := "change", desc := "(II)I" } : Jvm.MethodName)) ∈ zU := zin3 (List.mem_of_getElem? (i := 54) rfl) rfl
theorem zm_3_55 : (Jvm.Cond.instanceMethod ({ cls := "FlexibleBoxes$Box", name := "change", desc := "(II)I" } : Jvm.MethodName)) ∈ zU := zin3 (List.mem_of_getElem? (i := 55) rfl) rfl
theorem zm_3_56 : (Jvm.Cond.selects "FlexibleBoxes$Box" ({ cls := "FlexibleBoxes$Box", name := "change", desc := "(II)I" } : Jvm.MethodName) ({ cls := "FlexibleBoxes$Box", name := "change", desc := "(II)I" } : Jvm.MethodName)) ∈ zU := zin3 (List.mem_of_getElem? (i := 56) rfl) rfl
theorem zm_3_57 : (Jvm.Cond.code ({ cls := "FlexibleBoxes$Box", name := "change", desc := "(II)I" } : Jvm.MethodName) prog_2_method_4_code (4 : Nat) (Option.some Jvm.ClassFile.FieldType.int)) ∈ zU := zin3 (List.mem_of_getElem? (i := 57) rfl) rfl
theorem zm_3_59 : (Jvm.Cond.methodLink "FlexibleBoxesLaw" (17 : Nat) ({ cls := "FlexibleBoxes", name := "viewport", desc := "(II)V" } : Jvm.MethodName)) ∈ zU := zin3 (List.mem_of_getElem? (i := 59) rfl) rfl
theorem zm_3_60 : (Jvm.Cond.instanceMethod ({ cls := "FlexibleBoxes", name := "viewport", desc := "(II)V" } : Jvm.MethodName)) ∈ zU := zin3 (List.mem_of_getElem? (i := 60) rfl) rfl
theorem zm_3_61 : (Jvm.Cond.selects "FlexibleBoxes" ({ cls := "FlexibleBoxes", name := "viewport", desc := "(II)V" } : Jvm.MethodName) ({ cls := "FlexibleBoxes", name := "viewport", desc := "(II)V" } : Jvm.MethodName)) ∈ zU := zin3 (List.mem_of_getElem? (i := 61) rfl) rfl
theorem zm_3_62 : (Jvm.Cond.code ({ cls := "FlexibleBoxes", name := "viewport", desc := "(II)V" } : Jvm.MethodName) prog_1_method_10_code (3 : Nat) (Option.none : Option Jvm.ClassFile.FieldType)) ∈ zU := zin3 (List.mem_of_getElem? (i := 62) rfl) rfl
theorem zm_3_63 : (Jvm.Cond.methodLink "FlexibleBoxes" (114 : Nat) ({ cls := "FlexibleBoxes", name := "isViewportLength", desc := "(I)Z" } : Jvm.MethodName)) ∈ zU := zin3 (List.mem_of_getElem? (i := 63) rfl) rfl
theorem zm_3_64 : (Jvm.Cond.static ({ cls := "FlexibleBoxes", name := "isViewportLength", desc := "(I)Z" } : Jvm.MethodName)) ∈ zU := zin3 (List.mem_of_getElem? (i := 64) rfl) rfl
theorem zm_3_65 : (Jvm.Cond.code ({ cls := "FlexibleBoxes", name := "isViewportLength", desc := "(I)Z" } : Jvm.MethodName) prog_1_method_27_code (1 : Nat) (Option.some Jvm.ClassFile.FieldType.boolean)) ∈ zU := zin3 (List.mem_of_getElem? (i := 65) rfl) rfl
theorem zm_3_67 : (Jvm.Cond.methodLink "FlexibleBoxesLaw" (38 : Nat) ({ cls := "FlexibleBoxes", name := "x", desc := "(I)I" } : Jvm.MethodName)) ∈ zU := zin3 (List.mem_of_getElem? (i := 67) rfl) rfl
theorem zm_3_68 : (Jvm.Cond.instanceMethod ({ cls := "FlexibleBoxes", name := "x", desc := "(I)I" } : Jvm.MethodName)) ∈ zU := zin3 (List.mem_of_getElem? (i := 68) rfl) rfl
theorem zm_3_69 : (Jvm.Cond.selects "FlexibleBoxes" ({ cls := "FlexibleBoxes", name := "x", desc := "(I)I" } : Jvm.MethodName) ({ cls := "FlexibleBoxes", name := "x", desc := "(I)I" } : Jvm.MethodName)) ∈ zU := zin3 (List.mem_of_getElem? (i := 69) rfl) rfl
theorem zm_3_70 : (Jvm.Cond.code ({ cls := "FlexibleBoxes", name := "x", desc := "(I)I" } : Jvm.MethodName) prog_1_method_11_code (2 : Nat) (Option.some Jvm.ClassFile.FieldType.int)) ∈ zU := zin3 (List.mem_of_getElem? (i := 70) rfl) rfl
theorem zm_3_71 : (Jvm.Cond.methodLink "FlexibleBoxes" (125 : Nat) ({ cls := "FlexibleBoxes", name := "laidOut", desc := "(LFlexibleBoxes$Box;)LFlexibleBoxes$Box;" } : Jvm.MethodName)) ∈ zU := zin3 (List.mem_of_getElem? (i := 71) rfl) rfl
theorem zm_3_73 : (Jvm.Cond.instanceMethod ({ cls := "FlexibleBoxes", name := "laidOut", desc := "(LFlexibleBoxes$Box;)LFlexibleBoxes$Box;" } : Jvm.MethodName)) ∈ zU := zin3 (List.mem_of_getElem? (i := 73) rfl) rfl
theorem zm_3_74 : (Jvm.Cond.code ({ cls := "FlexibleBoxes", name := "laidOut", desc := "(LFlexibleBoxes$Box;)LFlexibleBoxes$Box;" } : Jvm.MethodName) prog_1_method_25_code (2 : Nat) (Option.some (Jvm.ClassFile.FieldType.object "FlexibleBoxes$Box"))) ∈ zU := zin3 (List.mem_of_getElem? (i := 74) rfl) rfl
theorem zm_3_76 : (Jvm.Cond.methodLink "FlexibleBoxesLaw" (41 : Nat) ({ cls := "FlexibleBoxes", name := "y", desc := "(I)I" } : Jvm.MethodName)) ∈ zU := zin3 (List.mem_of_getElem? (i := 76) rfl) rfl
theorem zm_3_77 : (Jvm.Cond.instanceMethod ({ cls := "FlexibleBoxes", name := "y", desc := "(I)I" } : Jvm.MethodName)) ∈ zU := zin3 (List.mem_of_getElem? (i := 77) rfl) rfl
theorem zm_3_78 : (Jvm.Cond.selects "FlexibleBoxes" ({ cls := "FlexibleBoxes", name := "y", desc := "(I)I" } : Jvm.MethodName) ({ cls := "FlexibleBoxes", name := "y", desc := "(I)I" } : Jvm.MethodName)) ∈ zU := zin3 (List.mem_of_getElem? (i := 78) rfl) rfl
theorem zm_3_79 : (Jvm.Cond.code ({ cls := "FlexibleBoxes", name := "y", desc := "(I)I" } : Jvm.MethodName) prog_1_method_12_code (2 : Nat) (Option.some Jvm.ClassFile.FieldType.int)) ∈ zU := zin3 (List.mem_of_getElem? (i := 79) rfl) rfl
theorem zm_3_80 : (Jvm.Cond.methodLink "FlexibleBoxesLaw" (32 : Nat) ({ cls := "FlexibleBoxes", name := "width", desc := "(I)I" } : Jvm.MethodName)) ∈ zU := zin3 (List.mem_of_getElem? (i := 80) rfl) rfl
theorem zm_3_81 : (Jvm.Cond.instanceMethod ({ cls := "FlexibleBoxes", name := "width", desc := "(I)I" } : Jvm.MethodName)) ∈ zU := zin3 (List.mem_of_getElem? (i := 81) rfl) rfl
theorem zm_3_82 : (Jvm.Cond.selects "FlexibleBoxes" ({ cls := "FlexibleBoxes", name := "width", desc := "(I)I" } : Jvm.MethodName) ({ cls := "FlexibleBoxes", name := "width", desc := "(I)I" } : Jvm.MethodName)) ∈ zU := zin3 (List.mem_of_getElem? (i := 82) rfl) rfl
theorem zm_3_83 : (Jvm.Cond.code ({ cls := "FlexibleBoxes", name := "width", desc := "(I)I" } : Jvm.MethodName) prog_1_method_13_code (2 : Nat) (Option.some Jvm.ClassFile.FieldType.int)) ∈ zU := zin3 (List.mem_of_getElem? (i := 83) rfl) rfl
theorem zm_3_84 : (Jvm.Cond.methodLink "FlexibleBoxesLaw" (57 : Nat) ({ cls := "FlexibleBoxes", name := "height", desc := "(I)I" } : Jvm.MethodName)) ∈ zU := zin3 (List.mem_of_getElem? (i := 84) rfl) rfl
theorem zm_3_85 : (Jvm.Cond.instanceMethod ({ cls := "FlexibleBoxes", name := "height", desc := "(I)I" } : Jvm.MethodName)) ∈ zU := zin3 (List.mem_of_getElem? (i := 85) rfl) rfl
theorem zm_3_86 : (Jvm.Cond.selects "FlexibleBoxes" ({ cls := "FlexibleBoxes", name := "height", desc := "(I)I" } : Jvm.MethodName) ({ cls := "FlexibleBoxes", name := "height", desc := "(I)I" } : Jvm.MethodName)) ∈ zU := zin3 (List.mem_of_getElem? (i := 86) rfl) rfl
theorem zm_3_87 : (Jvm.Cond.code ({ cls := "FlexibleBoxes", name := "height", desc := "(I)I" } : Jvm.MethodName) prog_1_method_14_code (2 : Nat) (Option.some Jvm.ClassFile.FieldType.int)) ∈ zU := zin3 (List.mem_of_getElem? (i := 87) rfl) rfl
theorem zm_3_88 : (Jvm.Cond.methodLink "FlexibleBoxesLaw" (47 : Nat) ({ cls := "FlexibleBoxes", name := "lines", desc := "(I)I" } : Jvm.MethodName)) ∈ zU := zin3 (List.mem_of_getElem? (i := 88) rfl) rfl
theorem zm_3_89 : (Jvm.Cond.instanceMethod ({ cls := "FlexibleBoxes", name := "lines", desc := "(I)I" } : Jvm.MethodName)) ∈ zU := zin3 (List.mem_of_getElem? (i := 89) rfl) rfl
theorem zm_3_90 : (Jvm.Cond.selects "FlexibleBoxes" ({ cls := "FlexibleBoxes", name := "lines", desc := "(I)I" } : Jvm.MethodName) ({ cls := "FlexibleBoxes", name := "lines", desc := "(I)I" } : Jvm.MethodName)) ∈ zU := zin3 (List.mem_of_getElem? (i := 90) rfl) rfl
theorem zm_3_91 : (Jvm.Cond.code ({ cls := "FlexibleBoxes", name := "lines", desc := "(I)I" } : Jvm.MethodName) prog_1_method_17_code (2 : Nat) (Option.some Jvm.ClassFile.FieldType.int)) ∈ zU := zin3 (List.mem_of_getElem? (i := 91) rfl) rfl
theorem zm_3_92 : (Jvm.Cond.methodLink "FlexibleBoxesLaw" (35 : Nat) ({ cls := "FlexibleBoxes", name := "lineOf", desc := "(I)I" } : Jvm.MethodName)) ∈ zU := zin3 (List.mem_of_getElem? (i := 92) rfl) rfl
theorem zm_3_93 : (Jvm.Cond.instanceMethod ({ cls := "FlexibleBoxes", name := "lineOf", desc := "(I)I" } : Jvm.MethodName)) ∈ zU := zin3 (List.mem_of_getElem? (i := 93) rfl) rfl
theorem zm_3_94 : (Jvm.Cond.selects "FlexibleBoxes" ({ cls := "FlexibleBoxes", name := "lineOf", desc := "(I)I" } : Jvm.MethodName) ({ cls := "FlexibleBoxes", name := "lineOf", desc := "(I)I" } : Jvm.MethodName)) ∈ zU := zin3 (List.mem_of_getElem? (i := 94) rfl) rfl
theorem zm_3_95 : (Jvm.Cond.code ({ cls := "FlexibleBoxes", name := "lineOf", desc := "(I)I" } : Jvm.MethodName) prog_1_method_18_code (2 : Nat) (Option.some Jvm.ClassFile.FieldType.int)) ∈ zU := zin3 (List.mem_of_getElem? (i := 95) rfl) rfl
theorem zm_3_96 : (Jvm.Cond.methodLink "FlexibleBoxesLaw" (44 : Nat) ({ cls := "FlexibleBoxes", name := "overflow", desc := "(I)I" } : Jvm.MethodName)) ∈ zU := zin3 (List.mem_of_getElem? (i := 96) rfl) rfl
theorem zm_3_97 : (Jvm.Cond.instanceMethod ({ cls := "FlexibleBoxes", name := "overflow", desc := "(I)I" } : Jvm.MethodName)) ∈ zU := zin3 (List.mem_of_getElem? (i := 97) rfl) rfl
theorem zm_3_98 : (Jvm.Cond.selects "FlexibleBoxes" ({ cls := "FlexibleBoxes", name := "overflow", desc := "(I)I" } : Jvm.MethodName) ({ cls := "FlexibleBoxes", name := "overflow", desc := "(I)I" } : Jvm.MethodName)) ∈ zU := zin3 (List.mem_of_getElem? (i := 98) rfl) rfl
theorem zm_3_99 : (Jvm.Cond.code ({ cls := "FlexibleBoxes", name := "overflow", desc := "(I)I" } : Jvm.MethodName) prog_1_method_19_code (3 : Nat) (Option.some Jvm.ClassFile.FieldType.int)) ∈ zU := zin3 (List.mem_of_getElem? (i := 99) rfl) rfl
theorem zm_3_100 : (Jvm.Cond.methodLink "FlexibleBoxes" (156 : Nat) ({ cls := "FlexibleBoxes$Layout", name := "kidsOverflow", desc := "(LFlexibleBoxes$Box;)I" } : Jvm.MethodName)) ∈ zU := zin3 (List.mem_of_getElem? (i := 100) rfl) rfl
theorem zm_3_101 : (Jvm.Cond.static ({ cls := "FlexibleBoxes$Layout", name := "kidsOverflow", desc := "(LFlexibleBoxes$Box;)I" } : Jvm.MethodName)) ∈ zU := zin3 (List.mem_of_getElem? (i := 101) rfl) rfl
theorem zm_3_102 : (Jvm.Cond.code ({ cls := "FlexibleBoxes$Layout", name := "kidsOverflow", desc := "(LFlexibleBoxes$Box;)I" } : Jvm.MethodName) prog_4_method_19_code (4 : Nat) (Option.some Jvm.ClassFile.FieldType.int)) ∈ zU := zin3 (List.mem_of_getElem? (i := 102) rfl) rfl
theorem zm_3_103 : (Jvm.Cond.methodLink "FlexibleBoxes" (159 : Nat) ({ cls := "FlexibleBoxes$Layout", name := "textOverflow", desc := "(LFlexibleBoxes$Box;)I" } : Jvm.MethodName)) ∈ zU := zin3 (List.mem_of_getElem? (i := 103) rfl) rfl
theorem zm_3_104 : (Jvm.Cond.static ({ cls := "FlexibleBoxes$Layout", name := "textOverflow", desc := "(LFlexibleBoxes$Box;)I" } : Jvm.MethodName)) ∈ zU := zin3 (List.mem_of_getElem? (i := 104) rfl) rfl
theorem zm_3_105 : (Jvm.Cond.code ({ cls := "FlexibleBoxes$Layout", name := "textOverflow", desc := "(LFlexibleBoxes$Box;)I" } : Jvm.MethodName) prog_4_method_20_code (3 : Nat) (Option.some Jvm.ClassFile.FieldType.int)) ∈ zU := zin3 (List.mem_of_getElem? (i := 105) rfl) rfl
theorem zm_3_106 : (Jvm.Cond.methodLink "FlexibleBoxesLaw" (54 : Nat) ({ cls := "FlexibleBoxes", name := "hit", desc := "(II)I" } : Jvm.MethodName)) ∈ zU := zin3 (List.mem_of_getElem? (i := 106) rfl) rfl
theorem zm_3_107 : (Jvm.Cond.instanceMethod ({ cls := "FlexibleBoxes", name := "hit", desc := "(II)I" } : Jvm.MethodName)) ∈ zU := zin3 (List.mem_of_getElem? (i := 107) rfl) rfl
theorem zm_3_108 : (Jvm.Cond.selects "FlexibleBoxes" ({ cls := "FlexibleBoxes", name := "hit", desc := "(II)I" } : Jvm.MethodName) ({ cls := "FlexibleBoxes", name := "hit", desc := "(II)I" } : Jvm.MethodName)) ∈ zU := zin3 (List.mem_of_getElem? (i := 108) rfl) rfl
theorem zm_3_109 : (Jvm.Cond.code ({ cls := "FlexibleBoxes", name := "hit", desc := "(II)I" } : Jvm.MethodName) prog_1_method_20_code (3 : Nat) (Option.some Jvm.ClassFile.FieldType.int)) ∈ zU := zin3 (List.mem_of_getElem? (i := 109) rfl) rfl
theorem zm_3_110 : (Jvm.Cond.methodLink "FlexibleBoxes" (162 : Nat) ({ cls := "FlexibleBoxes$Layout", name := "topmostAt", desc := "(II)I" } : Jvm.MethodName)) ∈ zU := zin3 (List.mem_of_getElem? (i := 110) rfl) rfl
theorem zm_3_111 : (Jvm.Cond.instanceMethod ({ cls := "FlexibleBoxes$Layout", name := "topmostAt", desc := "(II)I" } : Jvm.MethodName)) ∈ zU := zin3 (List.mem_of_getElem? (i := 111) rfl) rfl
theorem zm_3_112 : (Jvm.Cond.selects "FlexibleBoxes$Layout" ({ cls := "FlexibleBoxes$Layout", name := "topmostAt", desc := "(II)I" } : Jvm.MethodName) ({ cls := "FlexibleBoxes$Layout", name := "topmostAt", desc := "(II)I" } : Jvm.MethodName)) ∈ zU := zin3 (List.mem_of_getElem? (i := 112) rfl) rfl
theorem zm_3_113 : (Jvm.Cond.code ({ cls := "FlexibleBoxes$Layout", name := "topmostAt", desc := "(II)I" } : Jvm.MethodName) prog_4_method_21_code (6 : Nat) (Option.some Jvm.ClassFile.FieldType.int)) ∈ zU := zin3 (List.mem_of_getElem? (i := 113) rfl) rfl
theorem zm_3_114 : (Jvm.Cond.methodLink "FlexibleBoxes$Layout" (206 : Nat) ({ cls := "FlexibleBoxes$Box", name := "covers", desc := "(II)Z" } : Jvm.MethodName)) ∈ zU := zin3 (List.mem_of_getElem? (i := 114) rfl) rfl
theorem zm_3_115 : (Jvm.Cond.instanceMethod ({ cls := "FlexibleBoxes$Box", name := "covers", desc := "(II)Z" } : Jvm.MethodName)) ∈ zU := zin3 (List.mem_of_getElem? (i := 115) rfl) rfl
theorem zm_3_116 : (Jvm.Cond.selects "FlexibleBoxes$Box" ({ cls := "FlexibleBoxes$Box", name := "covers", desc := "(II)Z" } : Jvm.MethodName) ({ cls := "FlexibleBoxes$Box", name := "covers", desc := "(II)Z" } : Jvm.MethodName)) ∈ zU := zin3 (List.mem_of_getElem? (i := 116) rfl) rfl
theorem zm_3_117 : (Jvm.Cond.code ({ cls := "FlexibleBoxes$Box", name := "covers", desc := "(II)Z" } : Jvm.MethodName) prog_2_method_19_code (3 : Nat) (Option.some Jvm.ClassFile.FieldType.boolean)) ∈ zU := zin3 (List.mem_of_getElem? (i := 117) rfl) rfl
theorem zm_3_118 : (Jvm.Cond.methodLink "FlexibleBoxes$Layout" (213 : Nat) ({ cls := "FlexibleBoxes$Layout", name := "paintedAfter", desc := "(LFlexibleBoxes$Box;)LFlexibleBoxes$Box;" } : Jvm.MethodName)) ∈ zU := zin3 (List.mem_of_getElem? (i := 118) rfl) rfl
theorem zm_3_119 : (Jvm.Cond.static ({ cls := "FlexibleBoxes$Layout", name := "paintedAfter", desc := "(LFlexibleBoxes$Box;)LFlexibleBoxes$Box;" } : Jvm.MethodName)) ∈ zU := zin3 (List.mem_of_getElem? (i := 119) rfl) rfl
theorem zm_3_120 : (Jvm.Cond.code ({ cls := "FlexibleBoxes$Layout", name := "paintedAfter", desc := "(LFlexibleBoxes$Box;)LFlexibleBoxes$Box;" } : Jvm.MethodName) prog_4_method_22_code (2 : Nat) (Option.some (Jvm.ClassFile.FieldType.object "FlexibleBoxes$Box"))) ∈ zU := zin3 (List.mem_of_getElem? (i := 120) rfl) rfl
theorem zm_3_121 : (Jvm.Cond.methodLink "FlexibleBoxesLaw" (50 : Nat) ({ cls := "FlexibleBoxes", name := "widthFor", desc := "(II)I" } : Jvm.MethodName)) ∈ zU := zin3 (List.mem_of_getElem? (i := 121) rfl) rfl
theorem zm_3_122 : (Jvm.Cond.instanceMethod ({ cls := "FlexibleBoxes", name := "widthFor", desc := "(II)I" } : Jvm.MethodName)) ∈ zU := zin3 (List.mem_of_getElem? (i := 122) rfl) rfl
theorem zm_3_123 : (Jvm.Cond.selects "FlexibleBoxes" ({ cls := "FlexibleBoxes", name := "widthFor", desc := "(II)I" } : Jvm.MethodName) ({ cls := "FlexibleBoxes", name := "widthFor", desc := "(II)I" } : Jvm.MethodName)) ∈ zU := zin3 (List.mem_of_getElem? (i := 123) rfl) rfl
theorem zm_3_124 : (Jvm.Cond.code ({ cls := "FlexibleBoxes", name := "widthFor", desc := "(II)I" } : Jvm.MethodName) prog_1_method_21_code (4 : Nat) (Option.some Jvm.ClassFile.FieldType.int)) ∈ zU := zin3 (List.mem_of_getElem? (i := 124) rfl) rfl
theorem zm_3_126 : (Jvm.Cond.methodLink "FlexibleBoxes" (167 : Nat) ({ cls := "FlexibleBoxes$Layout", name := "narrowestFor", desc := "(LFlexibleBoxes$Box;I)I" } : Jvm.MethodName)) ∈ zU := zin3 (List.mem_of_getElem? (i := 126) rfl) rfl
theorem zm_3_127 : (Jvm.Cond.instanceMethod ({ cls := "FlexibleBoxes$Layout", name := "narrowestFor", desc := "(LFlexibleBoxes$Box;I)I" } : Jvm.MethodName)) ∈ zU := zin3 (List.mem_of_getElem? (i := 127) rfl) rfl
theorem zm_3_128 : (Jvm.Cond.selects "FlexibleBoxes$Layout" ({ cls := "FlexibleBoxes$Layout", name := "narrowestFor", desc := "(LFlexibleBoxes$Box;I)I" } : Jvm.MethodName) ({ cls := "FlexibleBoxes$Layout", name := "narrowestFor", desc := "(LFlexibleBoxes$Box;I)I" } : Jvm.MethodName)) ∈ zU := zin3 (List.mem_of_getElem? (i := 128) rfl) rfl
theorem zm_3_129 : (Jvm.Cond.code ({ cls := "FlexibleBoxes$Layout", name := "narrowestFor", desc := "(LFlexibleBoxes$Box;I)I" } : Jvm.MethodName) prog_4_method_23_code (4 : Nat) (Option.some Jvm.ClassFile.FieldType.int)) ∈ zU := zin3 (List.mem_of_getElem? (i := 129) rfl) rfl
theorem zm_3_130 : (Jvm.Cond.methodLink "FlexibleBoxes$Layout" (219 : Nat) ({ cls := "FlexibleBoxes$Layout", name := "linesVary", desc := "(LFlexibleBoxes$Box;)Z" } : Jvm.MethodName)) ∈ zU := zin3 (List.mem_of_getElem? (i := 130) rfl) rfl
theorem zm_3_131 : (Jvm.Cond.static ({ cls := "FlexibleBoxes$Layout", name := "linesVary", desc := "(LFlexibleBoxes$Box;)Z" } : Jvm.MethodName)) ∈ zU := zin3 (List.mem_of_getElem? (i := 131) rfl) rfl
theorem zm_3_132 : (Jvm.Cond.code ({ cls := "FlexibleBoxes$Layout", name := "linesVary", desc := "(LFlexibleBoxes$Box;)Z" } : Jvm.MethodName) prog_4_method_24_code (1 : Nat) (Option.some Jvm.ClassFile.FieldType.boolean)) ∈ zU := zin3 (List.mem_of_getElem? (i := 132) rfl) rfl
theorem zm_3_133 : (Jvm.Cond.methodLink "FlexibleBoxes$Layout" (226 : Nat) ({ cls := "FlexibleBoxes$Layout", name := "linesAt", desc := "(LFlexibleBoxes$Box;I)I" } : Jvm.MethodName)) ∈ zU := zin3 (List.mem_of_getElem? (i := 133) rfl) rfl
theorem zm_3_135 : (Jvm.Cond.instanceMethod ({ cls := "FlexibleBoxes$Layout", name := "linesAt", desc := "(LFlexibleBoxes$Box;I)I" } : Jvm.MethodName)) ∈ zU := zin3 (List.mem_of_getElem? (i := 135) rfl) rfl
theorem zm_3_136 : (Jvm.Cond.code ({ cls := "FlexibleBoxes$Layout", name := "linesAt", desc := "(LFlexibleBoxes$Box;I)I" } : Jvm.MethodName) prog_4_method_25_code (4 : Nat) (Option.some Jvm.ClassFile.FieldType.int)) ∈ zU := zin3 (List.mem_of_getElem? (i := 136) rfl) rfl
theorem zm_3_137 : (Jvm.Cond.methodLink "FlexibleBoxesLaw" (11 : Nat) ({ cls := "FlexibleBoxesLaw", name := "cell", desc := "([III)I" } : Jvm.MethodName)) ∈ zU := zin3 (List.mem_of_getElem? (i := 137) rfl) rfl
theorem zm_3_138 : (Jvm.Cond.static ({ cls := "FlexibleBoxesLaw", name := "cell", desc := "([III)I" } : Jvm.MethodName)) ∈ zU := zin3 (List.mem_of_getElem? (i := 138) rfl) rfl
theorem zm_3_139 : (Jvm.Cond.code ({ cls := "FlexibleBoxesLaw", name := "cell", desc := "([III)I" } : Jvm.MethodName) method_2_code (3 : Nat) (Option.some Jvm.ClassFile.FieldType.int)) ∈ zU := zin3 (List.mem_of_getElem? (i := 139) rfl) rfl
theorem zm_3_140 : (Jvm.Cond.constant "FlexibleBoxesLaw" (7 : Nat) (4194303 : Int32)) ∈ zU := zin3 (List.mem_of_getElem? (i := 140) rfl) rfl
theorem zm_3_141 : (Jvm.Cond.methodLink "FlexibleBoxesLaw" (29 : Nat) ({ cls := "FlexibleBoxesLaw", name := "limit", desc := "(III)I" } : Jvm.MethodName)) ∈ zU := zin3 (List.mem_of_getElem? (i := 141) rfl) rfl
theorem zm_3_142 : (Jvm.Cond.static ({ cls := "FlexibleBoxesLaw", name := "limit", desc := "(III)I" } : Jvm.MethodName)) ∈ zU := zin3 (List.mem_of_getElem? (i := 142) rfl) rfl
theorem zm_3_143 : (Jvm.Cond.code ({ cls := "FlexibleBoxesLaw", name := "limit", desc := "(III)I" } : Jvm.MethodName) method_3_code (4 : Nat) (Option.some Jvm.ClassFile.FieldType.int)) ∈ zU := zin3 (List.mem_of_getElem? (i := 143) rfl) rfl
theorem inX0 : ∀ w ∈ u_ws RX0 TX0 18, w ∈ zU := by decide +kernel
theorem inX1 : ∀ w ∈ u_ws RX1 TX1 11, w ∈ zU := by decide +kernel
theorem inX2 : ∀ w ∈ u_ws RX2 TX2 3, w ∈ zU := by decide +kernel
theorem inX4 : ∀ w ∈ u_ws RX4 TX4 5, w ∈ zU := by decide +kernel
theorem inX5 : ∀ w ∈ u_ws RX5 TX5 3, w ∈ zU := by decide +kernel
