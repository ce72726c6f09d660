/-! ===== BEGIN printed: names, fields, word lists, decode rows ===== -/
def RX0 : String := "Panelry$Balloon"
def TX0 : u_T := fun k => match k with
  | 0 => ("Panelry$Balloon", "panelNumber", "I", true)
  | 1 => ("Panelry$Balloon", "figure", "I", true)
  | 2 => ("Panelry$Balloon", "letters", "I", true)
  | _ => ("Panelry$Balloon", "box", "LPanelry$Box;", false)
def tyX0 : Nat → FieldType := fun k => match k with
  | 0 => .int
  | 1 => .int
  | 2 => .int
  | _ => .object "Panelry$Box"
abbrev wsX00 : List Cond := u_ws RX0 TX0 4
theorem nmX0 : ∀ a, a < 4 → ∀ b, b < 4 → a ≠ b → (TX0 a).2.1 ≠ (TX0 b).2.1 := by decide +kernel
theorem tyX0_ok : ∀ k, k < 4 → parseFieldDescriptor (TX0 k).2.2.1 = some (tyX0 k) := by decide +kernel
abbrev cX0_init : ByteArray := prog_2_method_1_code
def yX0_init : MethodName := ⟨RX0, "<init>", "(ILPanelry$Box;II)V"⟩
abbrev cX0_fitsItsLetters : ByteArray := prog_2_method_2_code
def yX0_fitsItsLetters : MethodName := ⟨RX0, "fitsItsLetters", "()Z"⟩
abbrev cX0_standsAheadOf : ByteArray := prog_2_method_3_code
def yX0_standsAheadOf : MethodName := ⟨RX0, "standsAheadOf", "(LPanelry$Balloon;Z)Z"⟩
abbrev cX0_mirrored : ByteArray := prog_2_method_4_code
def yX0_mirrored : MethodName := ⟨RX0, "mirrored", "()LPanelry$Balloon;"⟩
def RX1 : String := "Panelry$Box"
def TX1 : u_T := fun k => match k with
  | 0 => ("Panelry$Box", "x", "I", true)
  | 1 => ("Panelry$Box", "y", "I", true)
  | 2 => ("Panelry$Box", "width", "I", true)
  | _ => ("Panelry$Box", "height", "I", true)
def tyX1 : Nat → FieldType := fun k => match k with
  | 0 => .int
  | 1 => .int
  | 2 => .int
  | _ => .int
abbrev wsX10 : List Cond := u_ws RX1 TX1 4
theorem nmX1 : ∀ a, a < 4 → ∀ b, b < 4 → a ≠ b → (TX1 a).2.1 ≠ (TX1 b).2.1 := by decide +kernel
theorem tyX1_ok : ∀ k, k < 4 → parseFieldDescriptor (TX1 k).2.2.1 = some (tyX1 k) := by decide +kernel
abbrev cX1_init : ByteArray := prog_3_method_1_code
def yX1_init : MethodName := ⟨RX1, "<init>", "(IIII)V"⟩
abbrev cX1_endX : ByteArray := prog_3_method_2_code
def yX1_endX : MethodName := ⟨RX1, "endX", "()I"⟩
abbrev cX1_endY : ByteArray := prog_3_method_3_code
def yX1_endY : MethodName := ⟨RX1, "endY", "()I"⟩
abbrev cX1_middleX : ByteArray := prog_3_method_4_code
def yX1_middleX : MethodName := ⟨RX1, "middleX", "()I"⟩
abbrev cX1_middleY : ByteArray := prog_3_method_5_code
def yX1_middleY : MethodName := ⟨RX1, "middleY", "()I"⟩
abbrev cX1_beginFor : ByteArray := prog_3_method_6_code
def yX1_beginFor : MethodName := ⟨RX1, "beginFor", "(Z)I"⟩
abbrev cX1_endFor : ByteArray := prog_3_method_7_code
def yX1_endFor : MethodName := ⟨RX1, "endFor", "(Z)I"⟩
abbrev cX1_isOnPage : ByteArray := prog_3_method_8_code
def yX1_isOnPage : MethodName := ⟨RX1, "isOnPage", "()Z"⟩
abbrev cX1_holds : ByteArray := prog_3_method_9_code
def yX1_holds : MethodName := ⟨RX1, "holds", "(LPanelry$Box;)Z"⟩
abbrev cX1_overlaps : ByteArray := prog_3_method_10_code
def yX1_overlaps : MethodName := ⟨RX1, "overlaps", "(LPanelry$Box;)Z"⟩
abbrev cX1_sharesHeight : ByteArray := prog_3_method_11_code
def yX1_sharesHeight : MethodName := ⟨RX1, "sharesHeight", "(LPanelry$Box;)Z"⟩
abbrev cX1_hasToComeAheadOf : ByteArray := prog_3_method_12_code
def yX1_hasToComeAheadOf : MethodName := ⟨RX1, "hasToComeAheadOf", "(LPanelry$Box;Z)Z"⟩
abbrev cX1_mirrored : ByteArray := prog_3_method_13_code
def yX1_mirrored : MethodName := ⟨RX1, "mirrored", "()LPanelry$Box;"⟩
def RX2 : String := "Panelry$Face"
def TX2 : u_T := fun k => match k with
  | 0 => ("Panelry$Face", "box", "LPanelry$Box;", true)
  | 1 => ("Panelry$Face", "wears", "I", true)
  | _ => ("Panelry$Face", "changes", "Z", true)
def tyX2 : Nat → FieldType := fun k => match k with
  | 0 => .object "Panelry$Box"
  | 1 => .int
  | _ => .boolean
abbrev wsX20 : List Cond := u_ws RX2 TX2 3
theorem nmX2 : ∀ a, a < 3 → ∀ b, b < 3 → a ≠ b → (TX2 a).2.1 ≠ (TX2 b).2.1 := by decide +kernel
theorem tyX2_ok : ∀ k, k < 3 → parseFieldDescriptor (TX2 k).2.2.1 = some (tyX2 k) := by decide +kernel
abbrev cX2_init : ByteArray := prog_4_method_1_code
def yX2_init : MethodName := ⟨RX2, "<init>", "(LPanelry$Box;IZ)V"⟩
abbrev cX2_isBreakAfter : ByteArray := prog_4_method_2_code
def yX2_isBreakAfter : MethodName := ⟨RX2, "isBreakAfter", "(I)Z"⟩
abbrev cX2_mirrored : ByteArray := prog_4_method_3_code
def yX2_mirrored : MethodName := ⟨RX2, "mirrored", "()LPanelry$Face;"⟩
def RX3 : String := "Panelry$Page"
def TX3 : u_T := fun k => match k with
  | 0 => ("Panelry$Page", "panels", "Ljava/util/ArrayList;", true)
  | 1 => ("Panelry$Page", "balloons", "Ljava/util/ArrayList;", true)
  | 2 => ("Panelry$Page", "isLeftward", "Z", false)
  | 3 => ("Panelry$Page", "stage", "I", false)
  | _ => ("Panelry$Page", "print", "[I", false)
def tyX3 : Nat → FieldType := fun k => match k with
  | 0 => .object "java/util/ArrayList"
  | 1 => .object "java/util/ArrayList"
  | 2 => .boolean
  | 3 => .int
  | _ => .array .int
abbrev wsX30 : List Cond := u_ws RX3 TX3 5
theorem nmX3 : ∀ a, a < 5 → ∀ b, b < 5 → a ≠ b → (TX3 a).2.1 ≠ (TX3 b).2.1 := by decide +kernel
theorem tyX3_ok : ∀ k, k < 5 → parseFieldDescriptor (TX3 k).2.2.1 = some (tyX3 k) := by decide +kernel
abbrev cX3_init : ByteArray := prog_5_method_1_code
def yX3_init : MethodName := ⟨RX3, "<init>", "(Z)V"⟩
abbrev cX3_allPanels : ByteArray := prog_5_method_2_code
def yX3_allPanels : MethodName := ⟨RX3, "allPanels", "()I"⟩
abbrev cX3_hasPanelOver : ByteArray := prog_5_method_3_code
def yX3_hasPanelOver : MethodName := ⟨RX3, "hasPanelOver", "(LPanelry$Box;)Z"⟩
abbrev cX3_hasOneAheadOf : ByteArray := prog_5_method_4_code
def yX3_hasOneAheadOf : MethodName := ⟨RX3, "hasOneAheadOf", "(IIZ)Z"⟩
abbrev cX3_neighbourAt : ByteArray := prog_5_method_5_code
def yX3_neighbourAt : MethodName := ⟨RX3, "neighbourAt", "(IILPanelry$Balloon;)LPanelry$Balloon;"⟩
abbrev cX3_hasBalloonOver : ByteArray := prog_5_method_6_code
def yX3_hasBalloonOver : MethodName := ⟨RX3, "hasBalloonOver", "(ILPanelry$Balloon;)Z"⟩
abbrev cX3_isOutOfTurn : ByteArray := prog_5_method_7_code
def yX3_isOutOfTurn : MethodName := ⟨RX3, "isOutOfTurn", "(ILPanelry$Balloon;)Z"⟩
abbrev cX3_isTailHit : ByteArray := prog_5_method_8_code
def yX3_isTailHit : MethodName := ⟨RX3, "isTailHit", "(ILPanelry$Balloon;LPanelry$Panel;)Z"⟩
abbrev cX3_isTailMet : ByteArray := prog_5_method_9_code
def yX3_isTailMet : MethodName := ⟨RX3, "isTailMet", "(LPanelry$Tail;LPanelry$Balloon;LPanelry$Balloon;LPanelry$Panel;)Z"⟩
abbrev cX3_countBreaks : ByteArray := prog_5_method_10_code
def yX3_countBreaks : MethodName := ⟨RX3, "countBreaks", "([I)I"⟩
abbrev cX3_answersInPrint : ByteArray := prog_5_method_11_code
def yX3_answersInPrint : MethodName := ⟨RX3, "answersInPrint", "(I)[I"⟩
abbrev cX3_countLetters : ByteArray := prog_5_method_12_code
def yX3_countLetters : MethodName := ⟨RX3, "countLetters", "()I"⟩
abbrev cX3_mirrored : ByteArray := prog_5_method_13_code
def yX3_mirrored : MethodName := ⟨RX3, "mirrored", "()LPanelry$Page;"⟩
def RX4 : String := "Panelry$Panel"
def TX4 : u_T := fun k => match k with
  | 0 => ("Panelry$Panel", "box", "LPanelry$Box;", true)
  | _ => ("Panelry$Panel", "faces", "[LPanelry$Face;", true)
def tyX4 : Nat → FieldType := fun k => match k with
  | 0 => .object "Panelry$Box"
  | _ => .array (.object "Panelry$Face")
abbrev wsX40 : List Cond := u_ws RX4 TX4 2
theorem nmX4 : ∀ a, a < 2 → ∀ b, b < 2 → a ≠ b → (TX4 a).2.1 ≠ (TX4 b).2.1 := by decide +kernel
theorem tyX4_ok : ∀ k, k < 2 → parseFieldDescriptor (TX4 k).2.2.1 = some (tyX4 k) := by decide +kernel
abbrev cX4_init : ByteArray := prog_6_method_1_code
def yX4_init : MethodName := ⟨RX4, "<init>", "(LPanelry$Box;)V"⟩
abbrev cX4_faceOf : ByteArray := prog_6_method_2_code
def yX4_faceOf : MethodName := ⟨RX4, "faceOf", "(I)LPanelry$Face;"⟩
abbrev cX4_putFace : ByteArray := prog_6_method_3_code
def yX4_putFace : MethodName := ⟨RX4, "putFace", "(ILPanelry$Face;)V"⟩
abbrev cX4_hasFaceUnder : ByteArray := prog_6_method_4_code
def yX4_hasFaceUnder : MethodName := ⟨RX4, "hasFaceUnder", "(LPanelry$Box;)Z"⟩
abbrev cX4_countBreaks : ByteArray := prog_6_method_5_code
def yX4_countBreaks : MethodName := ⟨RX4, "countBreaks", "([I)I"⟩
abbrev cX4_mirrored : ByteArray := prog_6_method_6_code
def yX4_mirrored : MethodName := ⟨RX4, "mirrored", "()LPanelry$Panel;"⟩
def RX5 : String := "Panelry$Reading"
def TX5 : u_T := fun k => match k with
  | 0 => ("Panelry$Reading", "page", "LPanelry$Page;", true)
  | 1 => ("Panelry$Reading", "isLeftward", "Z", true)
  | 2 => ("Panelry$Reading", "order", "[I", true)
  | 3 => ("Panelry$Reading", "length", "I", false)
  | _ => ("Panelry$Reading", "doubtCount", "I", false)
def tyX5 : Nat → FieldType := fun k => match k with
  | 0 => .object "Panelry$Page"
  | 1 => .boolean
  | 2 => .array .int
  | 3 => .int
  | _ => .int
abbrev wsX50 : List Cond := u_ws RX5 TX5 5
theorem nmX5 : ∀ a, a < 5 → ∀ b, b < 5 → a ≠ b → (TX5 a).2.1 ≠ (TX5 b).2.1 := by decide +kernel
theorem tyX5_ok : ∀ k, k < 5 → parseFieldDescriptor (TX5 k).2.2.1 = some (tyX5 k) := by decide +kernel
abbrev cX5_init : ByteArray := prog_7_method_1_code
def yX5_init : MethodName := ⟨RX5, "<init>", "(LPanelry$Page;Z)V"⟩
abbrev cX5_of : ByteArray := prog_7_method_2_code
def yX5_of : MethodName := ⟨RX5, "of", "(LPanelry$Page;Z)LPanelry$Reading;"⟩
abbrev cX5_panelAt : ByteArray := prog_7_method_3_code
def yX5_panelAt : MethodName := ⟨RX5, "panelAt", "(I)I"⟩
abbrev cX5_keepsAhead : ByteArray := prog_7_method_4_code
def yX5_keepsAhead : MethodName := ⟨RX5, "keepsAhead", "()Z"⟩
abbrev cX5_takeSet : ByteArray := prog_7_method_5_code
def yX5_takeSet : MethodName := ⟨RX5, "takeSet", "(LPanelry$Reading;II)V"⟩
abbrev cX5_takeByNumber : ByteArray := prog_7_method_6_code
def yX5_takeByNumber : MethodName := ⟨RX5, "takeByNumber", "(I)V"⟩
abbrev cX5_widestCut : ByteArray := prog_7_method_7_code
def yX5_widestCut : MethodName := ⟨RX5, "widestCut", "(IZ)I"⟩
abbrev cX5_gutterAt : ByteArray := prog_7_method_8_code
def yX5_gutterAt : MethodName := ⟨RX5, "gutterAt", "(IZI)I"⟩
abbrev cX5_endingBy : ByteArray := prog_7_method_9_code
def yX5_endingBy : MethodName := ⟨RX5, "endingBy", "(IZI)I"⟩
def RX6 : String := "Panelry$Tail"
def TX6 : u_T := fun k => match k with
  | 0 => ("Panelry$Tail", "fromX", "I", true)
  | 1 => ("Panelry$Tail", "fromY", "I", true)
  | 2 => ("Panelry$Tail", "mouthX", "I", true)
  | _ => ("Panelry$Tail", "mouthY", "I", true)
def tyX6 : Nat → FieldType := fun k => match k with
  | 0 => .int
  | 1 => .int
  | 2 => .int
  | _ => .int
abbrev wsX60 : List Cond := u_ws RX6 TX6 4
theorem nmX6 : ∀ a, a < 4 → ∀ b, b < 4 → a ≠ b → (TX6 a).2.1 ≠ (TX6 b).2.1 := by decide +kernel
theorem tyX6_ok : ∀ k, k < 4 → parseFieldDescriptor (TX6 k).2.2.1 = some (tyX6 k) := by decide +kernel
abbrev cX6_init : ByteArray := prog_8_method_1_code
def yX6_init : MethodName := ⟨RX6, "<init>", "(LPanelry$Box;LPanelry$Box;)V"⟩
abbrev cX6_meets : ByteArray := prog_8_method_2_code
def yX6_meets : MethodName := ⟨RX6, "meets", "(LPanelry$Tail;)Z"⟩
abbrev cX6_runsAlong : ByteArray := prog_8_method_3_code
def yX6_runsAlong : MethodName := ⟨RX6, "runsAlong", "(LPanelry$Tail;)Z"⟩
abbrev cX6_touches : ByteArray := prog_8_method_4_code
def yX6_touches : MethodName := ⟨RX6, "touches", "(LPanelry$Box;)Z"⟩
abbrev cX6_sideOf : ByteArray := prog_8_method_5_code
def yX6_sideOf : MethodName := ⟨RX6, "sideOf", "(II)I"⟩
abbrev cX6_isSpanMet : ByteArray := prog_8_method_6_code
def yX6_isSpanMet : MethodName := ⟨RX6, "isSpanMet", "(IIII)Z"⟩
def RX7 : String := "Panelry$Telling"
def TX7 : u_T := fun k => match k with
  | 0 => ("Panelry$Telling", "fact", "I", true)
  | 1 => ("Panelry$Telling", "value", "I", true)
  | 2 => ("Panelry$Telling", "time", "I", true)
  | 3 => ("Panelry$Telling", "isRetcon", "Z", true)
  | _ => ("Panelry$Telling", "week", "I", true)
def tyX7 : Nat → FieldType := fun k => match k with
  | 0 => .int
  | 1 => .int
  | 2 => .int
  | 3 => .boolean
  | _ => .int
abbrev wsX70 : List Cond := u_ws RX7 TX7 5
theorem nmX7 : ∀ a, a < 5 → ∀ b, b < 5 → a ≠ b → (TX7 a).2.1 ≠ (TX7 b).2.1 := by decide +kernel
theorem tyX7_ok : ∀ k, k < 5 → parseFieldDescriptor (TX7 k).2.2.1 = some (tyX7 k) := by decide +kernel
abbrev cX7_init : ByteArray := prog_9_method_1_code
def yX7_init : MethodName := ⟨RX7, "<init>", "(IIIZI)V"⟩
abbrev cX7_isHeard : ByteArray := prog_9_method_2_code
def yX7_isHeard : MethodName := ⟨RX7, "isHeard", "(III)Z"⟩
abbrev cX7_replaces : ByteArray := prog_9_method_3_code
def yX7_replaces : MethodName := ⟨RX7, "replaces", "(LPanelry$Telling;)Z"⟩
abbrev cX7_contradicts : ByteArray := prog_9_method_4_code
def yX7_contradicts : MethodName := ⟨RX7, "contradicts", "(LPanelry$Telling;)Z"⟩
def RX8 : String := "Panelry"
def TX8 : u_T := fun k => match k with
  | 0 => ("Panelry", "pages", "Ljava/util/ArrayList;", true)
  | 1 => ("Panelry", "tellings", "Ljava/util/ArrayList;", true)
  | 2 => ("Panelry", "figureCount", "I", false)
  | 3 => ("Panelry", "week", "I", false)
  | _ => ("Panelry", "workerCount", "I", false)
def tyX8 : Nat → FieldType := fun k => match k with
  | 0 => .object "java/util/ArrayList"
  | 1 => .object "java/util/ArrayList"
  | 2 => .int
  | 3 => .int
  | _ => .int
abbrev wsX80 : List Cond := u_ws RX8 TX8 5
theorem nmX8 : ∀ a, a < 5 → ∀ b, b < 5 → a ≠ b → (TX8 a).2.1 ≠ (TX8 b).2.1 := by decide +kernel
theorem tyX8_ok : ∀ k, k < 5 → parseFieldDescriptor (TX8 k).2.2.1 = some (tyX8 k) := by decide +kernel
abbrev cX8_init : ByteArray := prog_1_method_1_code
def yX8_init : MethodName := ⟨RX8, "<init>", "()V"⟩
abbrev cX8_page : ByteArray := prog_1_method_2_code
def yX8_page : MethodName := ⟨RX8, "page", "(Z)I"⟩
abbrev cX8_panel : ByteArray := prog_1_method_3_code
def yX8_panel : MethodName := ⟨RX8, "panel", "(IIIII)I"⟩
abbrev cX8_turn : ByteArray := prog_1_method_4_code
def yX8_turn : MethodName := ⟨RX8, "turn", "(IZ)Z"⟩
abbrev cX8_read : ByteArray := prog_1_method_5_code
def yX8_read : MethodName := ⟨RX8, "read", "(IZI)I"⟩
abbrev cX8_doubts : ByteArray := prog_1_method_6_code
def yX8_doubts : MethodName := ⟨RX8, "doubts", "(I)I"⟩
abbrev cX8_orders : ByteArray := prog_1_method_7_code
def yX8_orders : MethodName := ⟨RX8, "orders", "(IZ)I"⟩
abbrev cX8_isOne : ByteArray := prog_1_method_8_code
def yX8_isOne : MethodName := ⟨RX8, "isOne", "(IZ)Z"⟩
abbrev cX8_mirror : ByteArray := prog_1_method_9_code
def yX8_mirror : MethodName := ⟨RX8, "mirror", "(I)I"⟩
abbrev cX8_figure : ByteArray := prog_1_method_10_code
def yX8_figure : MethodName := ⟨RX8, "figure", "()I"⟩
abbrev cX8_draw : ByteArray := prog_1_method_11_code
def yX8_draw : MethodName := ⟨RX8, "draw", "(IIIIIIIZ)V"⟩
abbrev cX8_balloon : ByteArray := prog_1_method_12_code
def yX8_balloon : MethodName := ⟨RX8, "balloon", "(IIIIIIII)I"⟩
abbrev cX8_move : ByteArray := prog_1_method_13_code
def yX8_move : MethodName := ⟨RX8, "move", "(IIII)V"⟩
abbrev cX8_faults : ByteArray := prog_1_method_14_code
def yX8_faults : MethodName := ⟨RX8, "faults", "(II)I"⟩
abbrev cX8_breaks : ByteArray := prog_1_method_15_code
def yX8_breaks : MethodName := ⟨RX8, "breaks", "()I"⟩
abbrev cX8_tell : ByteArray := prog_1_method_16_code
def yX8_tell : MethodName := ⟨RX8, "tell", "(IIIZ)I"⟩
abbrev cX8_known : ByteArray := prog_1_method_17_code
def yX8_known : MethodName := ⟨RX8, "known", "(III)I"⟩
abbrev cX8_contradictions : ByteArray := prog_1_method_18_code
def yX8_contradictions : MethodName := ⟨RX8, "contradictions", "(I)I"⟩
abbrev cX8_workers : ByteArray := prog_1_method_19_code
def yX8_workers : MethodName := ⟨RX8, "workers", "(I)I"⟩
abbrev cX8_pass : ByteArray := prog_1_method_20_code
def yX8_pass : MethodName := ⟨RX8, "pass", "(I)I"⟩
abbrev cX8_stage : ByteArray := prog_1_method_21_code
def yX8_stage : MethodName := ⟨RX8, "stage", "(I)I"⟩
abbrev cX8_press : ByteArray := prog_1_method_22_code
def yX8_press : MethodName := ⟨RX8, "press", "(I)I"⟩
abbrev cX8_printed : ByteArray := prog_1_method_23_code
def yX8_printed : MethodName := ⟨RX8, "printed", "(II)I"⟩
abbrev cX8_requireRange : ByteArray := prog_1_method_24_code
def yX8_requireRange : MethodName := ⟨RX8, "requireRange", "(III)V"⟩
abbrev cX8_requireUnprinted : ByteArray := prog_1_method_25_code
def yX8_requireUnprinted : MethodName := ⟨RX8, "requireUnprinted", "(LPanelry$Page;)V"⟩
abbrev cX8_requireFact : ByteArray := prog_1_method_26_code
def yX8_requireFact : MethodName := ⟨RX8, "requireFact", "(I)V"⟩
abbrev cX8_requireFigure : ByteArray := prog_1_method_27_code
def yX8_requireFigure : MethodName := ⟨RX8, "requireFigure", "(I)V"⟩
abbrev cX8_existingPage : ByteArray := prog_1_method_28_code
def yX8_existingPage : MethodName := ⟨RX8, "existingPage", "(I)LPanelry$Page;"⟩
abbrev cX8_existingPanel : ByteArray := prog_1_method_29_code
def yX8_existingPanel : MethodName := ⟨RX8, "existingPanel", "(LPanelry$Page;I)LPanelry$Panel;"⟩
abbrev cX8_existingBalloon : ByteArray := prog_1_method_30_code
def yX8_existingBalloon : MethodName := ⟨RX8, "existingBalloon", "(LPanelry$Page;I)LPanelry$Balloon;"⟩
abbrev cX8_requireRoomForPage : ByteArray := prog_1_method_31_code
def yX8_requireRoomForPage : MethodName := ⟨RX8, "requireRoomForPage", "()V"⟩
abbrev cX8_addPage : ByteArray := prog_1_method_32_code
def yX8_addPage : MethodName := ⟨RX8, "addPage", "(LPanelry$Page;)I"⟩
abbrev cX8_countOrders : ByteArray := prog_1_method_33_code
def yX8_countOrders : MethodName := ⟨RX8, "countOrders", "(LPanelry$Page;IZI)I"⟩
abbrev cX8_isIn : ByteArray := prog_1_method_34_code
def yX8_isIn : MethodName := ⟨RX8, "isIn", "(II)Z"⟩
abbrev cX8_workOneWeek : ByteArray := prog_1_method_35_code
def yX8_workOneWeek : MethodName := ⟨RX8, "workOneWeek", "()V"⟩
def RX9 : String := "PanelryModel"
def TX9 : u_T := fun k => match k with
  | 0 => ("PanelryModel", "pages", "I", false)
  | 1 => ("PanelryModel", "isLeft", "[Z", true)
  | 2 => ("PanelryModel", "panels", "[I", true)
  | 3 => ("PanelryModel", "balloons", "[I", true)
  | 4 => ("PanelryModel", "stage", "[I", true)
  | 5 => ("PanelryModel", "printedIn", "[I", true)
  | 6 => ("PanelryModel", "printedPanels", "[I", true)
  | 7 => ("PanelryModel", "printedLetters", "[I", true)
  | 8 => ("PanelryModel", "printedReading", "[I", true)
  | 9 => ("PanelryModel", "px", "[I", true)
  | 10 => ("PanelryModel", "py", "[I", true)
  | 11 => ("PanelryModel", "pw", "[I", true)
  | 12 => ("PanelryModel", "ph", "[I", true)
  | 13 => ("PanelryModel", "figures", "I", false)
  | 14 => ("PanelryModel", "fx", "[I", true)
  | 15 => ("PanelryModel", "fy", "[I", true)
  | 16 => ("PanelryModel", "side", "[I", true)
  | 17 => ("PanelryModel", "wears", "[I", true)
  | 18 => ("PanelryModel", "changes", "[Z", true)
  | 19 => ("PanelryModel", "in", "[I", true)
  | 20 => ("PanelryModel", "bx", "[I", true)
  | 21 => ("PanelryModel", "by", "[I", true)
  | 22 => ("PanelryModel", "bw", "[I", true)
  | 23 => ("PanelryModel", "bh", "[I", true)
  | 24 => ("PanelryModel", "speaker", "[I", true)
  | 25 => ("PanelryModel", "letters", "[I", true)
  | 26 => ("PanelryModel", "tellings", "I", false)
  | 27 => ("PanelryModel", "fact", "[I", true)
  | 28 => ("PanelryModel", "time", "[I", true)
  | 29 => ("PanelryModel", "value", "[I", true)
  | 30 => ("PanelryModel", "isRetcon", "[Z", true)
  | 31 => ("PanelryModel", "toldIn", "[I", true)
  | 32 => ("PanelryModel", "week", "I", false)
  | 33 => ("PanelryModel", "workers", "I", false)
  | 34 => ("PanelryModel", "many", "I", false)
  | 35 => ("PanelryModel", "reading", "[I", true)
  | 36 => ("PanelryModel", "doubts", "I", false)
  | 37 => ("PanelryModel", "stack", "[I", true)
  | 38 => ("PanelryModel", "gutter", "I", false)
  | 39 => ("PanelryModel", "ahead", "I", false)
  | 40 => ("PanelryModel", "ways", "[I", true)
  | _ => ("PanelryModel", "thrown", "I", false)
def tyX9 : Nat → FieldType := fun k => match k with
  | 0 => .int
  | 1 => .array .boolean
  | 2 => .array .int
  | 3 => .array .int
  | 4 => .array .int
  | 5 => .array .int
  | 6 => .array .int
  | 7 => .array .int
  | 8 => .array .int
  | 9 => .array .int
  | 10 => .array .int
  | 11 => .array .int
  | 12 => .array .int
  | 13 => .int
  | 14 => .array .int
  | 15 => .array .int
  | 16 => .array .int
  | 17 => .array .int
  | 18 => .array .boolean
  | 19 => .array .int
  | 20 => .array .int
  | 21 => .array .int
  | 22 => .array .int
  | 23 => .array .int
  | 24 => .array .int
  | 25 => .array .int
  | 26 => .int
  | 27 => .array .int
  | 28 => .array .int
  | 29 => .array .int
  | 30 => .array .boolean
  | 31 => .array .int
  | 32 => .int
  | 33 => .int
  | 34 => .int
  | 35 => .array .int
  | 36 => .int
  | 37 => .array .int
  | 38 => .int
  | 39 => .int
  | 40 => .array .int
  | _ => .int
abbrev wsX90 : List Cond := u_ws RX9 TX9 42
theorem nmX9 : ∀ a, a < 42 → ∀ b, b < 42 → a ≠ b → (TX9 a).2.1 ≠ (TX9 b).2.1 := by decide +kernel
theorem tyX9_ok : ∀ k, k < 42 → parseFieldDescriptor (TX9 k).2.2.1 = some (tyX9 k) := by decide +kernel
abbrev cX9_init : ByteArray := prog_11_method_1_code
def yX9_init : MethodName := ⟨RX9, "<init>", "()V"⟩
abbrev cX9_thrown : ByteArray := prog_11_method_2_code
def yX9_thrown : MethodName := ⟨RX9, "thrown", "()I"⟩
abbrev cX9_within : ByteArray := prog_11_method_3_code
def yX9_within : MethodName := ⟨RX9, "within", "(III)Z"⟩
abbrev cX9_isPage : ByteArray := prog_11_method_4_code
def yX9_isPage : MethodName := ⟨RX9, "isPage", "(I)Z"⟩
abbrev cX9_isPanel : ByteArray := prog_11_method_5_code
def yX9_isPanel : MethodName := ⟨RX9, "isPanel", "(II)Z"⟩
abbrev cX9_isBalloon : ByteArray := prog_11_method_6_code
def yX9_isBalloon : MethodName := ⟨RX9, "isBalloon", "(II)Z"⟩
abbrev cX9_isPrinted : ByteArray := prog_11_method_7_code
def yX9_isPrinted : MethodName := ⟨RX9, "isPrinted", "(I)Z"⟩
abbrev cX9_meet : ByteArray := prog_11_method_8_code
def yX9_meet : MethodName := ⟨RX9, "meet", "(IIII)Z"⟩
abbrev cX9_makes : ByteArray := prog_11_method_9_code
def yX9_makes : MethodName := ⟨RX9, "makes", "(Z)I"⟩
abbrev cX9_page : ByteArray := prog_11_method_10_code
def yX9_page : MethodName := ⟨RX9, "page", "(Z)I"⟩
abbrev cX9_panel : ByteArray := prog_11_method_11_code
def yX9_panel : MethodName := ⟨RX9, "panel", "(IIIII)I"⟩
abbrev cX9_turn : ByteArray := prog_11_method_12_code
def yX9_turn : MethodName := ⟨RX9, "turn", "(IZ)Z"⟩
abbrev cX9_cuts : ByteArray := prog_11_method_13_code
def yX9_cuts : MethodName := ⟨RX9, "cuts", "(IIIZ)Z"⟩
abbrev cX9_isOneOnly : ByteArray := prog_11_method_14_code
def yX9_isOneOnly : MethodName := ⟨RX9, "isOneOnly", "(I)Z"⟩
abbrev cX9_reads : ByteArray := prog_11_method_15_code
def yX9_reads : MethodName := ⟨RX9, "reads", "(IZ)V"⟩
abbrev cX9_read : ByteArray := prog_11_method_16_code
def yX9_read : MethodName := ⟨RX9, "read", "(IZI)I"⟩
abbrev cX9_doubts : ByteArray := prog_11_method_17_code
def yX9_doubts : MethodName := ⟨RX9, "doubts", "(I)I"⟩
abbrev cX9_isAhead : ByteArray := prog_11_method_18_code
def yX9_isAhead : MethodName := ⟨RX9, "isAhead", "(IIIZ)Z"⟩
abbrev cX9_orders : ByteArray := prog_11_method_19_code
def yX9_orders : MethodName := ⟨RX9, "orders", "(IZ)I"⟩
abbrev cX9_isOne : ByteArray := prog_11_method_20_code
def yX9_isOne : MethodName := ⟨RX9, "isOne", "(IZ)Z"⟩
abbrev cX9_mirror : ByteArray := prog_11_method_21_code
def yX9_mirror : MethodName := ⟨RX9, "mirror", "(I)I"⟩
abbrev cX9_figure : ByteArray := prog_11_method_22_code
def yX9_figure : MethodName := ⟨RX9, "figure", "()I"⟩
abbrev cX9_draw : ByteArray := prog_11_method_23_code
def yX9_draw : MethodName := ⟨RX9, "draw", "(IIIIIIIZ)V"⟩
abbrev cX9_balloon : ByteArray := prog_11_method_24_code
def yX9_balloon : MethodName := ⟨RX9, "balloon", "(IIIIIIII)I"⟩
abbrev cX9_move : ByteArray := prog_11_method_25_code
def yX9_move : MethodName := ⟨RX9, "move", "(IIII)V"⟩
abbrev cX9_tailOf : ByteArray := prog_11_method_26_code
def yX9_tailOf : MethodName := ⟨RX9, "tailOf", "(II)I"⟩
abbrev cX9_turnOf : ByteArray := prog_11_method_27_code
def yX9_turnOf : MethodName := ⟨RX9, "turnOf", "(IIIIII)I"⟩
abbrev cX9_isBetween : ByteArray := prog_11_method_28_code
def yX9_isBetween : MethodName := ⟨RX9, "isBetween", "(III)Z"⟩
abbrev cX9_cross : ByteArray := prog_11_method_29_code
def yX9_cross : MethodName := ⟨RX9, "cross", "(IIIIIIII)Z"⟩
abbrev cX9_hitsBox : ByteArray := prog_11_method_30_code
def yX9_hitsBox : MethodName := ⟨RX9, "hitsBox", "(IIIII)Z"⟩
abbrev cX9_runAlong : ByteArray := prog_11_method_31_code
def yX9_runAlong : MethodName := ⟨RX9, "runAlong", "(IIIIII)Z"⟩
abbrev cX9_isTangled : ByteArray := prog_11_method_32_code
def yX9_isTangled : MethodName := ⟨RX9, "isTangled", "(II)Z"⟩
abbrev cX9_faults : ByteArray := prog_11_method_33_code
def yX9_faults : MethodName := ⟨RX9, "faults", "(II)I"⟩
abbrev cX9_breaks : ByteArray := prog_11_method_34_code
def yX9_breaks : MethodName := ⟨RX9, "breaks", "()I"⟩
abbrev cX9_tell : ByteArray := prog_11_method_35_code
def yX9_tell : MethodName := ⟨RX9, "tell", "(IIIZ)I"⟩
abbrev cX9_known : ByteArray := prog_11_method_36_code
def yX9_known : MethodName := ⟨RX9, "known", "(III)I"⟩
abbrev cX9_contradictions : ByteArray := prog_11_method_37_code
def yX9_contradictions : MethodName := ⟨RX9, "contradictions", "(I)I"⟩
abbrev cX9_workers : ByteArray := prog_11_method_38_code
def yX9_workers : MethodName := ⟨RX9, "workers", "(I)I"⟩
abbrev cX9_pass : ByteArray := prog_11_method_39_code
def yX9_pass : MethodName := ⟨RX9, "pass", "(I)I"⟩
abbrev cX9_stage : ByteArray := prog_11_method_40_code
def yX9_stage : MethodName := ⟨RX9, "stage", "(I)I"⟩
abbrev cX9_press : ByteArray := prog_11_method_41_code
def yX9_press : MethodName := ⟨RX9, "press", "(I)I"⟩
abbrev cX9_printed : ByteArray := prog_11_method_42_code
def yX9_printed : MethodName := ⟨RX9, "printed", "(II)I"⟩
def RJx145de : String := "java/io/Serializable"
def TJx145de : u_T := fun k => match k with
  | _ => ("", "", "", false)
def tyJx145de : Nat → FieldType := fun k => match k with
  | _ => .int
abbrev wsJx145de0 : List Cond := u_ws RJx145de TJx145de 0
theorem nmJx145de : ∀ a, a < 0 → ∀ b, b < 0 → a ≠ b → (TJx145de a).2.1 ≠ (TJx145de b).2.1 := by decide +kernel
theorem tyJx145de_ok : ∀ k, k < 0 → parseFieldDescriptor (TJx145de k).2.2.1 = some (tyJx145de k) := by decide +kernel
def RJx8e188 : String := "java/lang/Cloneable"
def TJx8e188 : u_T := fun k => match k with
  | _ => ("", "", "", false)
def tyJx8e188 : Nat → FieldType := fun k => match k with
  | _ => .int
abbrev wsJx8e1880 : List Cond := u_ws RJx8e188 TJx8e188 0
theorem nmJx8e188 : ∀ a, a < 0 → ∀ b, b < 0 → a ≠ b → (TJx8e188 a).2.1 ≠ (TJx8e188 b).2.1 := by decide +kernel
theorem tyJx8e188_ok : ∀ k, k < 0 → parseFieldDescriptor (TJx8e188 k).2.2.1 = some (tyJx8e188 k) := by decide +kernel
def RJ6 : String := "java/lang/Integer"
def TJ6 : u_T := fun k => match k with
  | _ => ("", "", "", false)
def tyJ6 : Nat → FieldType := fun k => match k with
  | _ => .int
abbrev wsJ60 : List Cond := u_ws RJ6 TJ6 0
theorem nmJ6 : ∀ a, a < 0 → ∀ b, b < 0 → a ≠ b → (TJ6 a).2.1 ≠ (TJ6 b).2.1 := by decide +kernel
theorem tyJ6_ok : ∀ k, k < 0 → parseFieldDescriptor (TJ6 k).2.2.1 = some (tyJ6 k) := by decide +kernel
abbrev cJ6_compare_7cf53 : ByteArray := prog_18_method_40_code
def yJ6_compare_7cf53 : MethodName := ⟨RJ6, "compare", "(II)I"⟩
abbrev cJ6_bitCount_0f7a4 : ByteArray := prog_18_method_49_code
def yJ6_bitCount_0f7a4 : MethodName := ⟨RJ6, "bitCount", "(I)I"⟩
def RJxab1ab : String := "java/lang/Iterable"
def TJxab1ab : u_T := fun k => match k with
  | _ => ("", "", "", false)
def tyJxab1ab : Nat → FieldType := fun k => match k with
  | _ => .int
abbrev wsJxab1ab0 : List Cond := u_ws RJxab1ab TJxab1ab 0
theorem nmJxab1ab : ∀ a, a < 0 → ∀ b, b < 0 → a ≠ b → (TJxab1ab a).2.1 ≠ (TJxab1ab b).2.1 := by decide +kernel
theorem tyJxab1ab_ok : ∀ k, k < 0 → parseFieldDescriptor (TJxab1ab k).2.2.1 = some (tyJxab1ab k) := by decide +kernel
def RJ9 : String := "java/lang/Math"
def TJ9 : u_T := fun k => match k with
  | _ => ("", "", "", false)
def tyJ9 : Nat → FieldType := fun k => match k with
  | _ => .int
abbrev wsJ90 : List Cond := u_ws RJ9 TJ9 0
theorem nmJ9 : ∀ a, a < 0 → ∀ b, b < 0 → a ≠ b → (TJ9 a).2.1 ≠ (TJ9 b).2.1 := by decide +kernel
theorem tyJ9_ok : ∀ k, k < 0 → parseFieldDescriptor (TJ9 k).2.2.1 = some (tyJ9 k) := by decide +kernel
abbrev cJ9_max_7cf53 : ByteArray := prog_20_method_65_code
def yJ9_max_7cf53 : MethodName := ⟨RJ9, "max", "(II)I"⟩
abbrev cJ9_min_7cf53 : ByteArray := prog_20_method_69_code
def yJ9_min_7cf53 : MethodName := ⟨RJ9, "min", "(II)I"⟩
def RJ0 : String := "java/lang/String"
def TJ0 : u_T := fun k => match k with
  | _ => ("", "", "", false)
def tyJ0 : Nat → FieldType := fun k => match k with
  | _ => .int
abbrev wsJ00 : List Cond := u_ws RJ0 TJ0 0
theorem nmJ0 : ∀ a, a < 0 → ∀ b, b < 0 → a ≠ b → (TJ0 a).2.1 ≠ (TJ0 b).2.1 := by decide +kernel
theorem tyJ0_ok : ∀ k, k < 0 → parseFieldDescriptor (TJ0 k).2.2.1 = some (tyJ0 k) := by decide +kernel
def RJ10 : String := "java/lang/System"
def TJ10 : u_T := fun k => match k with
  | _ => ("", "", "", false)
def tyJ10 : Nat → FieldType := fun k => match k with
  | _ => .int
abbrev wsJ100 : List Cond := u_ws RJ10 TJ10 0
theorem nmJ10 : ∀ a, a < 0 → ∀ b, b < 0 → a ≠ b → (TJ10 a).2.1 ≠ (TJ10 b).2.1 := by decide +kernel
theorem tyJ10_ok : ∀ k, k < 0 → parseFieldDescriptor (TJ10 k).2.2.1 = some (tyJ10 k) := by decide +kernel
def RJxa1e45 : String := "java/util/AbstractCollection"
def TJxa1e45 : u_T := fun k => match k with
  | _ => ("", "", "", false)
def tyJxa1e45 : Nat → FieldType := fun k => match k with
  | _ => .int
abbrev wsJxa1e450 : List Cond := u_ws RJxa1e45 TJxa1e45 0
theorem nmJxa1e45 : ∀ a, a < 0 → ∀ b, b < 0 → a ≠ b → (TJxa1e45 a).2.1 ≠ (TJxa1e45 b).2.1 := by decide +kernel
theorem tyJxa1e45_ok : ∀ k, k < 0 → parseFieldDescriptor (TJxa1e45 k).2.2.1 = some (tyJxa1e45 k) := by decide +kernel
abbrev cJxa1e45_init_da8c8 : ByteArray := prog_25_method_1_code
def yJxa1e45_init_da8c8 : MethodName := ⟨RJxa1e45, "<init>", "()V"⟩
def RJxc12de : String := "java/util/AbstractList"
def TJxc12de : u_T := fun k => match k with
  | _ => ("", "", "", false)
def tyJxc12de : Nat → FieldType := fun k => match k with
  | _ => .int
abbrev wsJxc12de0 : List Cond := u_ws RJxc12de TJxc12de 0
theorem nmJxc12de : ∀ a, a < 0 → ∀ b, b < 0 → a ≠ b → (TJxc12de a).2.1 ≠ (TJxc12de b).2.1 := by decide +kernel
theorem tyJxc12de_ok : ∀ k, k < 0 → parseFieldDescriptor (TJxc12de k).2.2.1 = some (tyJxc12de k) := by decide +kernel
abbrev cJxc12de_init_da8c8 : ByteArray := prog_26_method_1_code
def yJxc12de_init_da8c8 : MethodName := ⟨RJxc12de, "<init>", "()V"⟩
def RJx4a65c : String := "java/util/ArrayList"
def TJx4a65c : u_T := fun k => match k with
  | 0 => ("java/util/AbstractList", "modCount", "I", false)
  | 1 => ("java/util/ArrayList", "elementData", "[Ljava/lang/Object;", false)
  | _ => ("java/util/ArrayList", "size", "I", false)
def tyJx4a65c : Nat → FieldType := fun k => match k with
  | 0 => .int
  | 1 => .array (.object "java/lang/Object")
  | _ => .int
abbrev wsJx4a65c0 : List Cond := u_ws RJx4a65c TJx4a65c 3
theorem nmJx4a65c : ∀ a, a < 3 → ∀ b, b < 3 → a ≠ b → (TJx4a65c a).2.1 ≠ (TJx4a65c b).2.1 := by decide +kernel
theorem tyJx4a65c_ok : ∀ k, k < 3 → parseFieldDescriptor (TJx4a65c k).2.2.1 = some (tyJx4a65c k) := by decide +kernel
abbrev cJx4a65c_init_da8c8 : ByteArray := prog_27_method_2_code
def yJx4a65c_init_da8c8 : MethodName := ⟨RJx4a65c, "<init>", "()V"⟩
abbrev cJx4a65c_grow_92f84 : ByteArray := prog_27_method_6_code
def yJx4a65c_grow_92f84 : MethodName := ⟨RJx4a65c, "grow", "(I)[Ljava/lang/Object;"⟩
abbrev cJx4a65c_grow_d5877 : ByteArray := prog_27_method_7_code
def yJx4a65c_grow_d5877 : MethodName := ⟨RJx4a65c, "grow", "()[Ljava/lang/Object;"⟩
abbrev cJx4a65c_size_8abf5 : ByteArray := prog_27_method_8_code
def yJx4a65c_size_8abf5 : MethodName := ⟨RJx4a65c, "size", "()I"⟩
abbrev cJx4a65c_elementData_915e3 : ByteArray := prog_27_method_18_code
def yJx4a65c_elementData_915e3 : MethodName := ⟨RJx4a65c, "elementData", "(I)Ljava/lang/Object;"⟩
abbrev cJx4a65c_get_915e3 : ByteArray := prog_27_method_20_code
def yJx4a65c_get_915e3 : MethodName := ⟨RJx4a65c, "get", "(I)Ljava/lang/Object;"⟩
abbrev cJx4a65c_add_72be8 : ByteArray := prog_27_method_24_code
def yJx4a65c_add_72be8 : MethodName := ⟨RJx4a65c, "add", "(Ljava/lang/Object;[Ljava/lang/Object;I)V"⟩
abbrev cJx4a65c_add_9ea2d : ByteArray := prog_27_method_25_code
def yJx4a65c_add_9ea2d : MethodName := ⟨RJx4a65c, "add", "(Ljava/lang/Object;)Z"⟩
def RJ7 : String := "java/util/Arrays"
def TJ7 : u_T := fun k => match k with
  | _ => ("", "", "", false)
def tyJ7 : Nat → FieldType := fun k => match k with
  | _ => .int
abbrev wsJ70 : List Cond := u_ws RJ7 TJ7 0
theorem nmJ7 : ∀ a, a < 0 → ∀ b, b < 0 → a ≠ b → (TJ7 a).2.1 ≠ (TJ7 b).2.1 := by decide +kernel
theorem tyJ7_ok : ∀ k, k < 0 → parseFieldDescriptor (TJ7 k).2.2.1 = some (tyJ7 k) := by decide +kernel
abbrev cJ7_fill_53178 : ByteArray := prog_28_method_103_code
def yJ7_fill_53178 : MethodName := ⟨RJ7, "fill", "([II)V"⟩
abbrev cJ7_copyOf_1904c : ByteArray := prog_28_method_119_code
def yJ7_copyOf_1904c : MethodName := ⟨RJ7, "copyOf", "([Ljava/lang/Object;I)[Ljava/lang/Object;"⟩
abbrev cJ7_copyOf_6403c : ByteArray := prog_28_method_120_code
def yJ7_copyOf_6403c : MethodName := ⟨RJ7, "copyOf", "([Ljava/lang/Object;ILjava/lang/Class;)[Ljava/lang/Object;"⟩
def RJx5ef63 : String := "java/util/Collection"
def TJx5ef63 : u_T := fun k => match k with
  | _ => ("", "", "", false)
def tyJx5ef63 : Nat → FieldType := fun k => match k with
  | _ => .int
abbrev wsJx5ef630 : List Cond := u_ws RJx5ef63 TJx5ef63 0
theorem nmJx5ef63 : ∀ a, a < 0 → ∀ b, b < 0 → a ≠ b → (TJx5ef63 a).2.1 ≠ (TJx5ef63 b).2.1 := by decide +kernel
theorem tyJx5ef63_ok : ∀ k, k < 0 → parseFieldDescriptor (TJx5ef63 k).2.2.1 = some (tyJx5ef63 k) := by decide +kernel
def RJxbd725 : String := "java/util/List"
def TJxbd725 : u_T := fun k => match k with
  | _ => ("", "", "", false)
def tyJxbd725 : Nat → FieldType := fun k => match k with
  | _ => .int
abbrev wsJxbd7250 : List Cond := u_ws RJxbd725 TJxbd725 0
theorem nmJxbd725 : ∀ a, a < 0 → ∀ b, b < 0 → a ≠ b → (TJxbd725 a).2.1 ≠ (TJxbd725 b).2.1 := by decide +kernel
theorem tyJxbd725_ok : ∀ k, k < 0 → parseFieldDescriptor (TJxbd725 k).2.2.1 = some (tyJxbd725 k) := by decide +kernel
def RJ15 : String := "java/util/Objects"
def TJ15 : u_T := fun k => match k with
  | _ => ("", "", "", false)
def tyJ15 : Nat → FieldType := fun k => match k with
  | _ => .int
abbrev wsJ150 : List Cond := u_ws RJ15 TJ15 0
theorem nmJ15 : ∀ a, a < 0 → ∀ b, b < 0 → a ≠ b → (TJ15 a).2.1 ≠ (TJ15 b).2.1 := by decide +kernel
theorem tyJ15_ok : ∀ k, k < 0 → parseFieldDescriptor (TJ15 k).2.2.1 = some (tyJ15 k) := by decide +kernel
abbrev cJ15_checkIndex_7cf53 : ByteArray := prog_31_method_17_code
def yJ15_checkIndex_7cf53 : MethodName := ⟨RJ15, "checkIndex", "(II)I"⟩
def RJxf0a74 : String := "java/util/RandomAccess"
def TJxf0a74 : u_T := fun k => match k with
  | _ => ("", "", "", false)
def tyJxf0a74 : Nat → FieldType := fun k => match k with
  | _ => .int
abbrev wsJxf0a740 : List Cond := u_ws RJxf0a74 TJxf0a74 0
theorem nmJxf0a74 : ∀ a, a < 0 → ∀ b, b < 0 → a ≠ b → (TJxf0a74 a).2.1 ≠ (TJxf0a74 b).2.1 := by decide +kernel
theorem tyJxf0a74_ok : ∀ k, k < 0 → parseFieldDescriptor (TJxf0a74 k).2.2.1 = some (tyJxf0a74 k) := by decide +kernel
def RJxa66e6 : String := "java/util/SequencedCollection"
def TJxa66e6 : u_T := fun k => match k with
  | _ => ("", "", "", false)
def tyJxa66e6 : Nat → FieldType := fun k => match k with
  | _ => .int
abbrev wsJxa66e60 : List Cond := u_ws RJxa66e6 TJxa66e6 0
theorem nmJxa66e6 : ∀ a, a < 0 → ∀ b, b < 0 → a ≠ b → (TJxa66e6 a).2.1 ≠ (TJxa66e6 b).2.1 := by decide +kernel
theorem tyJxa66e6_ok : ∀ k, k < 0 → parseFieldDescriptor (TJxa66e6 k).2.2.1 = some (tyJxa66e6 k) := by decide +kernel
def RJ8 : String := "jdk/internal/util/ArraysSupport"
def TJ8 : u_T := fun k => match k with
  | _ => ("", "", "", false)
def tyJ8 : Nat → FieldType := fun k => match k with
  | _ => .int
abbrev wsJ80 : List Cond := u_ws RJ8 TJ8 0
theorem nmJ8 : ∀ a, a < 0 → ∀ b, b < 0 → a ≠ b → (TJ8 a).2.1 ≠ (TJ8 b).2.1 := by decide +kernel
theorem tyJ8_ok : ∀ k, k < 0 → parseFieldDescriptor (TJ8 k).2.2.1 = some (tyJ8 k) := by decide +kernel
abbrev cJ8_newLength_cabcc : ByteArray := prog_34_method_27_code
def yJ8_newLength_cabcc : MethodName := ⟨RJ8, "newLength", "(III)I"⟩
abbrev cJ8_hugeLength_7cf53 : ByteArray := prog_34_method_28_code
def yJ8_hugeLength_7cf53 : MethodName := ⟨RJ8, "hugeLength", "(II)I"⟩
def RJ3 : String := "jdk/internal/util/Preconditions"
def TJ3 : u_T := fun k => match k with
  | _ => ("", "", "", false)
def tyJ3 : Nat → FieldType := fun k => match k with
  | _ => .int
abbrev wsJ30 : List Cond := u_ws RJ3 TJ3 0
theorem nmJ3 : ∀ a, a < 0 → ∀ b, b < 0 → a ≠ b → (TJ3 a).2.1 ≠ (TJ3 b).2.1 := by decide +kernel
theorem tyJ3_ok : ∀ k, k < 0 → parseFieldDescriptor (TJ3 k).2.2.1 = some (tyJ3 k) := by decide +kernel
abbrev cJ3_checkIndex_8e157 : ByteArray := prog_35_method_11_code
def yJ3_checkIndex_8e157 : MethodName := ⟨RJ3, "checkIndex", "(IILjava/util/function/BiFunction;)I"⟩
def RL : String := "PanelryLaw"
abbrev cL_page : ByteArray := method_3_code
def yL_page : MethodName := ⟨RL, "page", "(LPanelry;Z[J)I"⟩
abbrev cL_panel : ByteArray := method_4_code
def yL_panel : MethodName := ⟨RL, "panel", "(LPanelry;IIIII[J)I"⟩
abbrev cL_turn : ByteArray := method_5_code
def yL_turn : MethodName := ⟨RL, "turn", "(LPanelry;IZ[J)I"⟩
abbrev cL_read : ByteArray := method_6_code
def yL_read : MethodName := ⟨RL, "read", "(LPanelry;IZI[J)I"⟩
abbrev cL_doubts : ByteArray := method_7_code
def yL_doubts : MethodName := ⟨RL, "doubts", "(LPanelry;I[J)I"⟩
abbrev cL_orders : ByteArray := method_8_code
def yL_orders : MethodName := ⟨RL, "orders", "(LPanelry;IZ[J)I"⟩
abbrev cL_isOne : ByteArray := method_9_code
def yL_isOne : MethodName := ⟨RL, "isOne", "(LPanelry;IZ[J)I"⟩
abbrev cL_mirror : ByteArray := method_10_code
def yL_mirror : MethodName := ⟨RL, "mirror", "(LPanelry;I[J)I"⟩
abbrev cL_figure : ByteArray := method_11_code
def yL_figure : MethodName := ⟨RL, "figure", "(LPanelry;[J)I"⟩
abbrev cL_draw : ByteArray := method_12_code
def yL_draw : MethodName := ⟨RL, "draw", "(LPanelry;IIIIIIIZ)I"⟩
abbrev cL_balloon : ByteArray := method_13_code
def yL_balloon : MethodName := ⟨RL, "balloon", "(LPanelry;IIIIIIII[J)I"⟩
abbrev cL_move : ByteArray := method_14_code
def yL_move : MethodName := ⟨RL, "move", "(LPanelry;IIII)I"⟩
abbrev cL_faults : ByteArray := method_15_code
def yL_faults : MethodName := ⟨RL, "faults", "(LPanelry;II[J)I"⟩
abbrev cL_tell : ByteArray := method_16_code
def yL_tell : MethodName := ⟨RL, "tell", "(LPanelry;IIIZ[J)I"⟩
abbrev cL_known : ByteArray := method_17_code
def yL_known : MethodName := ⟨RL, "known", "(LPanelry;III[J)I"⟩
abbrev cL_contradictions : ByteArray := method_18_code
def yL_contradictions : MethodName := ⟨RL, "contradictions", "(LPanelry;I[J)I"⟩
abbrev cL_workers : ByteArray := method_19_code
def yL_workers : MethodName := ⟨RL, "workers", "(LPanelry;I[J)I"⟩
abbrev cL_pass : ByteArray := method_20_code
def yL_pass : MethodName := ⟨RL, "pass", "(LPanelry;I[J)I"⟩
abbrev cL_stage : ByteArray := method_21_code
def yL_stage : MethodName := ⟨RL, "stage", "(LPanelry;I[J)I"⟩
abbrev cL_press : ByteArray := method_22_code
def yL_press : MethodName := ⟨RL, "press", "(LPanelry;I[J)I"⟩
abbrev cL_printed : ByteArray := method_23_code
def yL_printed : MethodName := ⟨RL, "printed", "(LPanelry;II[J)I"⟩
abbrev cL_law : ByteArray := code
def yL_law : MethodName := ⟨RL, "law", "([I)Z"⟩
abbrev vwCl : List vw_C := [(RJx4a65c, TJx4a65c, 3), (RX0, TX0, 4), (RX1, TX1, 4), (RX2, TX2, 3), (RX3, TX3, 5), (RX4, TX4, 2), (RX5, TX5, 5), (RX6, TX6, 4), (RX7, TX7, 5), (RX8, TX8, 5), (RX9, TX9, 42)]

