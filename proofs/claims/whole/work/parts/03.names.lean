/-! ===== BEGIN printed: names, fields, word lists, decode rows ===== -/
def RX0 : String := "FormFinds$ItemRow"
def TX0 : u_T := fun k => match k with
  | 0 => ("FormFinds$ItemRow", "values", "[I", true)
  | _ => ("FormFinds$ItemRow", "size", "I", false)
def tyX0 : Nat → FieldType := fun k => match k with
  | 0 => .array .int
  | _ => .int
abbrev wsX00 : List Cond := u_ws RX0 TX0 2
theorem nmX0 : ∀ a, a < 2 → ∀ b, b < 2 → a ≠ b → (TX0 a).2.1 ≠ (TX0 b).2.1 := by decide +kernel
theorem tyX0_ok : ∀ k, k < 2 → parseFieldDescriptor (TX0 k).2.2.1 = some (tyX0 k) := by decide +kernel
abbrev cX0_init : ByteArray := prog_2_method_1_code
def yX0_init : MethodName := ⟨RX0, "<init>", "()V"⟩
abbrev cX0_countIn : ByteArray := prog_2_method_2_code
def yX0_countIn : MethodName := ⟨RX0, "countIn", "(LFormFinds$NoteRow;I)I"⟩
abbrev cX0_valueIn : ByteArray := prog_2_method_3_code
def yX0_valueIn : MethodName := ⟨RX0, "valueIn", "(LFormFinds$NoteRow;II)I"⟩
abbrev cX0_read : ByteArray := prog_2_method_4_code
def yX0_read : MethodName := ⟨RX0, "read", "(LFormFinds$NoteRow;I)V"⟩
abbrev cX0_countDifferent : ByteArray := prog_2_method_5_code
def yX0_countDifferent : MethodName := ⟨RX0, "countDifferent", "(I)I"⟩
abbrev cX0_cameBefore : ByteArray := prog_2_method_6_code
def yX0_cameBefore : MethodName := ⟨RX0, "cameBefore", "(II)Z"⟩
abbrev cX0_sameRun : ByteArray := prog_2_method_7_code
def yX0_sameRun : MethodName := ⟨RX0, "sameRun", "(II)I"⟩
abbrev cX0_repeatLength : ByteArray := prog_2_method_8_code
def yX0_repeatLength : MethodName := ⟨RX0, "repeatLength", "(II)I"⟩
abbrev cX0_leastPeriod : ByteArray := prog_2_method_9_code
def yX0_leastPeriod : MethodName := ⟨RX0, "leastPeriod", "()I"⟩
abbrev cX0_countSame : ByteArray := prog_2_method_10_code
def yX0_countSame : MethodName := ⟨RX0, "countSame", "(III)I"⟩
def RX1 : String := "FormFinds$NoteRow"
def TX1 : u_T := fun k => match k with
  | 0 => ("FormFinds$NoteRow", "pitches", "[I", true)
  | 1 => ("FormFinds$NoteRow", "lengths", "[I", true)
  | _ => ("FormFinds$NoteRow", "size", "I", false)
def tyX1 : Nat → FieldType := fun k => match k with
  | 0 => .array .int
  | 1 => .array .int
  | _ => .int
abbrev wsX10 : List Cond := u_ws RX1 TX1 3
theorem nmX1 : ∀ a, a < 3 → ∀ b, b < 3 → a ≠ b → (TX1 a).2.1 ≠ (TX1 b).2.1 := by decide +kernel
theorem tyX1_ok : ∀ k, k < 3 → parseFieldDescriptor (TX1 k).2.2.1 = some (tyX1 k) := by decide +kernel
abbrev cX1_init : ByteArray := prog_3_method_1_code
def yX1_init : MethodName := ⟨RX1, "<init>", "()V"⟩
abbrev cX1_append : ByteArray := prog_3_method_2_code
def yX1_append : MethodName := ⟨RX1, "append", "(II)V"⟩
abbrev cX1_stepTo : ByteArray := prog_3_method_3_code
def yX1_stepTo : MethodName := ⟨RX1, "stepTo", "(I)I"⟩
def RX2 : String := "FormFinds$Parting"
def TX2 : u_T := fun k => match k with
  | 0 => ("FormFinds$Parting", "starts", "[I", true)
  | 1 => ("FormFinds$Parting", "size", "I", false)
  | 2 => ("FormFinds$Parting", "cost", "I", false)
  | 3 => ("FormFinds$Parting", "leastCost", "[I", true)
  | 4 => ("FormFinds$Parting", "fewest", "[I", true)
  | _ => ("FormFinds$Parting", "firstEnd", "[I", true)
def tyX2 : Nat → FieldType := fun k => match k with
  | 0 => .array .int
  | 1 => .int
  | 2 => .int
  | 3 => .array .int
  | 4 => .array .int
  | _ => .array .int
abbrev wsX20 : List Cond := u_ws RX2 TX2 6
theorem nmX2 : ∀ a, a < 6 → ∀ b, b < 6 → a ≠ b → (TX2 a).2.1 ≠ (TX2 b).2.1 := by decide +kernel
theorem tyX2_ok : ∀ k, k < 6 → parseFieldDescriptor (TX2 k).2.2.1 = some (tyX2 k) := by decide +kernel
abbrev cX2_init : ByteArray := prog_4_method_1_code
def yX2_init : MethodName := ⟨RX2, "<init>", "()V"⟩
abbrev cX2_part : ByteArray := prog_4_method_2_code
def yX2_part : MethodName := ⟨RX2, "part", "(LFormFinds$NoteRow;II)V"⟩
abbrev cX2_weighFrom : ByteArray := prog_4_method_3_code
def yX2_weighFrom : MethodName := ⟨RX2, "weighFrom", "(LFormFinds$NoteRow;III)V"⟩
abbrev cX2_isBetter : ByteArray := prog_4_method_4_code
def yX2_isBetter : MethodName := ⟨RX2, "isBetter", "(III)Z"⟩
def RX3 : String := "FormFinds$PlaceList"
def TX3 : u_T := fun k => match k with
  | 0 => ("FormFinds$PlaceList", "starts", "[I", true)
  | _ => ("FormFinds$PlaceList", "size", "I", false)
def tyX3 : Nat → FieldType := fun k => match k with
  | 0 => .array .int
  | _ => .int
abbrev wsX30 : List Cond := u_ws RX3 TX3 2
theorem nmX3 : ∀ a, a < 2 → ∀ b, b < 2 → a ≠ b → (TX3 a).2.1 ≠ (TX3 b).2.1 := by decide +kernel
theorem tyX3_ok : ∀ k, k < 2 → parseFieldDescriptor (TX3 k).2.2.1 = some (tyX3 k) := by decide +kernel
abbrev cX3_init : ByteArray := prog_5_method_1_code
def yX3_init : MethodName := ⟨RX3, "<init>", "()V"⟩
abbrev cX3_append : ByteArray := prog_5_method_2_code
def yX3_append : MethodName := ⟨RX3, "append", "(I)V"⟩
def RX4 : String := "FormFinds$RepeatList"
def TX4 : u_T := fun k => match k with
  | 0 => ("FormFinds$RepeatList", "parts", "[I", true)
  | 1 => ("FormFinds$RepeatList", "slots", "[I", true)
  | _ => ("FormFinds$RepeatList", "size", "I", false)
def tyX4 : Nat → FieldType := fun k => match k with
  | 0 => .array .int
  | 1 => .array .int
  | _ => .int
abbrev wsX40 : List Cond := u_ws RX4 TX4 3
theorem nmX4 : ∀ a, a < 3 → ∀ b, b < 3 → a ≠ b → (TX4 a).2.1 ≠ (TX4 b).2.1 := by decide +kernel
theorem tyX4_ok : ∀ k, k < 3 → parseFieldDescriptor (TX4 k).2.2.1 = some (tyX4 k) := by decide +kernel
abbrev cX4_init : ByteArray := prog_6_method_1_code
def yX4_init : MethodName := ⟨RX4, "<init>", "()V"⟩
abbrev cX4_partOf : ByteArray := prog_6_method_2_code
def yX4_partOf : MethodName := ⟨RX4, "partOf", "(II)I"⟩
abbrev cX4_gather : ByteArray := prog_6_method_3_code
def yX4_gather : MethodName := ⟨RX4, "gather", "(LFormFinds$ItemRow;I)V"⟩
abbrev cX4_countByLength : ByteArray := prog_6_method_4_code
def yX4_countByLength : MethodName := ⟨RX4, "countByLength", "(LFormFinds$ItemRow;I)V"⟩
abbrev cX4_giveSlotsLongestFirst : ByteArray := prog_6_method_5_code
def yX4_giveSlotsLongestFirst : MethodName := ⟨RX4, "giveSlotsLongestFirst", "()V"⟩
abbrev cX4_putInSlots : ByteArray := prog_6_method_6_code
def yX4_putInSlots : MethodName := ⟨RX4, "putInSlots", "(LFormFinds$ItemRow;I)V"⟩
abbrev cX4_put : ByteArray := prog_6_method_7_code
def yX4_put : MethodName := ⟨RX4, "put", "(IIII)V"⟩
def RX5 : String := "FormFinds"
def TX5 : u_T := fun k => match k with
  | 0 => ("FormFinds", "notes", "LFormFinds$NoteRow;", true)
  | 1 => ("FormFinds", "theme", "LFormFinds$NoteRow;", true)
  | 2 => ("FormFinds", "sought", "LFormFinds$NoteRow;", true)
  | 3 => ("FormFinds", "row", "LFormFinds$ItemRow;", true)
  | 4 => ("FormFinds", "again", "LFormFinds$RepeatList;", true)
  | 5 => ("FormFinds", "places", "LFormFinds$PlaceList;", true)
  | _ => ("FormFinds", "parting", "LFormFinds$Parting;", true)
def tyX5 : Nat → FieldType := fun k => match k with
  | 0 => .object "FormFinds$NoteRow"
  | 1 => .object "FormFinds$NoteRow"
  | 2 => .object "FormFinds$NoteRow"
  | 3 => .object "FormFinds$ItemRow"
  | 4 => .object "FormFinds$RepeatList"
  | 5 => .object "FormFinds$PlaceList"
  | _ => .object "FormFinds$Parting"
abbrev wsX50 : List Cond := u_ws RX5 TX5 7
theorem nmX5 : ∀ a, a < 7 → ∀ b, b < 7 → a ≠ b → (TX5 a).2.1 ≠ (TX5 b).2.1 := by decide +kernel
theorem tyX5_ok : ∀ k, k < 7 → parseFieldDescriptor (TX5 k).2.2.1 = some (tyX5 k) := by decide +kernel
abbrev cX5_init : ByteArray := prog_1_method_1_code
def yX5_init : MethodName := ⟨RX5, "<init>", "()V"⟩
abbrev cX5_clear : ByteArray := prog_1_method_2_code
def yX5_clear : MethodName := ⟨RX5, "clear", "()I"⟩
abbrev cX5_note : ByteArray := prog_1_method_3_code
def yX5_note : MethodName := ⟨RX5, "note", "(II)I"⟩
abbrev cX5_drop : ByteArray := prog_1_method_4_code
def yX5_drop : MethodName := ⟨RX5, "drop", "(I)I"⟩
abbrev cX5_items : ByteArray := prog_1_method_5_code
def yX5_items : MethodName := ⟨RX5, "items", "(I)I"⟩
abbrev cX5_item : ByteArray := prog_1_method_6_code
def yX5_item : MethodName := ⟨RX5, "item", "(II)I"⟩
abbrev cX5_repeats : ByteArray := prog_1_method_7_code
def yX5_repeats : MethodName := ⟨RX5, "repeats", "(II)I"⟩
abbrev cX5_repeat : ByteArray := prog_1_method_8_code
def yX5_repeat : MethodName := ⟨RX5, "repeat", "(II)I"⟩
abbrev cX5_passages : ByteArray := prog_1_method_9_code
def yX5_passages : MethodName := ⟨RX5, "passages", "(II)I"⟩
abbrev cX5_period : ByteArray := prog_1_method_10_code
def yX5_period : MethodName := ⟨RX5, "period", "(I)I"⟩
abbrev cX5_alike : ByteArray := prog_1_method_11_code
def yX5_alike : MethodName := ⟨RX5, "alike", "(IIII)I"⟩
abbrev cX5_motive : ByteArray := prog_1_method_12_code
def yX5_motive : MethodName := ⟨RX5, "motive", "(II)I"⟩
abbrev cX5_form : ByteArray := prog_1_method_13_code
def yX5_form : MethodName := ⟨RX5, "form", "(III)I"⟩
abbrev cX5_find : ByteArray := prog_1_method_14_code
def yX5_find : MethodName := ⟨RX5, "find", "(III)I"⟩
abbrev cX5_answer : ByteArray := prog_1_method_15_code
def yX5_answer : MethodName := ⟨RX5, "answer", "(III)I"⟩
abbrev cX5_entries : ByteArray := prog_1_method_16_code
def yX5_entries : MethodName := ⟨RX5, "entries", "(II)I"⟩
abbrev cX5_found : ByteArray := prog_1_method_17_code
def yX5_found : MethodName := ⟨RX5, "found", "(I)I"⟩
abbrev cX5_sections : ByteArray := prog_1_method_18_code
def yX5_sections : MethodName := ⟨RX5, "sections", "(II)I"⟩
abbrev cX5_section : ByteArray := prog_1_method_19_code
def yX5_section : MethodName := ⟨RX5, "section", "(I)I"⟩
abbrev cX5_of : ByteArray := prog_1_method_20_code
def yX5_of : MethodName := ⟨RX5, "of", "(I)I"⟩
abbrev cX5_isWithin : ByteArray := prog_1_method_21_code
def yX5_isWithin : MethodName := ⟨RX5, "isWithin", "(III)Z"⟩
abbrev cX5_isView : ByteArray := prog_1_method_22_code
def yX5_isView : MethodName := ⟨RX5, "isView", "(I)Z"⟩
abbrev cX5_isForm : ByteArray := prog_1_method_23_code
def yX5_isForm : MethodName := ⟨RX5, "isForm", "(I)Z"⟩
abbrev cX5_isScale : ByteArray := prog_1_method_24_code
def yX5_isScale : MethodName := ⟨RX5, "isScale", "(II)Z"⟩
abbrev cX5_isKeyAndHead : ByteArray := prog_1_method_25_code
def yX5_isKeyAndHead : MethodName := ⟨RX5, "isKeyAndHead", "(II)Z"⟩
abbrev cX5_formPitch : ByteArray := prog_1_method_26_code
def yX5_formPitch : MethodName := ⟨RX5, "formPitch", "(II)I"⟩
abbrev cX5_formLength : ByteArray := prog_1_method_27_code
def yX5_formLength : MethodName := ⟨RX5, "formLength", "(II)I"⟩
abbrev cX5_placeInTheme : ByteArray := prog_1_method_28_code
def yX5_placeInTheme : MethodName := ⟨RX5, "placeInTheme", "(II)I"⟩
abbrev cX5_answerPitch : ByteArray := prog_1_method_29_code
def yX5_answerPitch : MethodName := ⟨RX5, "answerPitch", "(III)I"⟩
abbrev cX5_lookForSought : ByteArray := prog_1_method_30_code
def yX5_lookForSought : MethodName := ⟨RX5, "lookForSought", "(II)V"⟩
abbrev cX5_isSoughtAt : ByteArray := prog_1_method_31_code
def yX5_isSoughtAt : MethodName := ⟨RX5, "isSoughtAt", "(III)Z"⟩
def RX6 : String := "FormFindsModel"
def TX6 : u_T := fun k => match k with
  | 0 => ("FormFindsModel", "thrown", "I", false)
  | 1 => ("FormFindsModel", "notes", "I", false)
  | 2 => ("FormFindsModel", "pitch", "[I", true)
  | 3 => ("FormFindsModel", "length", "[I", true)
  | 4 => ("FormFindsModel", "repeats", "I", false)
  | 5 => ("FormFindsModel", "repeatRow", "[I", true)
  | 6 => ("FormFindsModel", "motive", "I", false)
  | 7 => ("FormFindsModel", "motivePitch", "[I", true)
  | 8 => ("FormFindsModel", "motiveLength", "[I", true)
  | 9 => ("FormFindsModel", "places", "I", false)
  | 10 => ("FormFindsModel", "place", "[I", true)
  | 11 => ("FormFindsModel", "sections", "I", false)
  | 12 => ("FormFindsModel", "cost", "I", false)
  | 13 => ("FormFindsModel", "begins", "[I", true)
  | 14 => ("FormFindsModel", "lookPitch", "[I", true)
  | 15 => ("FormFindsModel", "least", "[I", true)
  | 16 => ("FormFindsModel", "fewest", "[I", true)
  | _ => ("FormFindsModel", "nextOne", "[I", true)
def tyX6 : Nat → FieldType := fun k => match k with
  | 0 => .int
  | 1 => .int
  | 2 => .array .int
  | 3 => .array .int
  | 4 => .int
  | 5 => .array .int
  | 6 => .int
  | 7 => .array .int
  | 8 => .array .int
  | 9 => .int
  | 10 => .array .int
  | 11 => .int
  | 12 => .int
  | 13 => .array .int
  | 14 => .array .int
  | 15 => .array .int
  | 16 => .array .int
  | _ => .array .int
abbrev wsX60 : List Cond := u_ws RX6 TX6 18
theorem nmX6 : ∀ a, a < 18 → ∀ b, b < 18 → a ≠ b → (TX6 a).2.1 ≠ (TX6 b).2.1 := by decide +kernel
theorem tyX6_ok : ∀ k, k < 18 → parseFieldDescriptor (TX6 k).2.2.1 = some (tyX6 k) := by decide +kernel
abbrev cX6_init : ByteArray := prog_8_method_1_code
def yX6_init : MethodName := ⟨RX6, "<init>", "()V"⟩
abbrev cX6_thrown : ByteArray := prog_8_method_2_code
def yX6_thrown : MethodName := ⟨RX6, "thrown", "()I"⟩
abbrev cX6_begin : ByteArray := prog_8_method_3_code
def yX6_begin : MethodName := ⟨RX6, "begin", "()V"⟩
abbrev cX6_clear : ByteArray := prog_8_method_4_code
def yX6_clear : MethodName := ⟨RX6, "clear", "()I"⟩
abbrev cX6_isIn : ByteArray := prog_8_method_5_code
def yX6_isIn : MethodName := ⟨RX6, "isIn", "(JJJ)Z"⟩
abbrev cX6_goesOn : ByteArray := prog_8_method_6_code
def yX6_goesOn : MethodName := ⟨RX6, "goesOn", "(ZI)Z"⟩
abbrev cX6_note : ByteArray := prog_8_method_7_code
def yX6_note : MethodName := ⟨RX6, "note", "(II)I"⟩
abbrev cX6_drop : ByteArray := prog_8_method_8_code
def yX6_drop : MethodName := ⟨RX6, "drop", "(I)I"⟩
abbrev cX6_many : ByteArray := prog_8_method_9_code
def yX6_many : MethodName := ⟨RX6, "many", "(I)I"⟩
abbrev cX6_itemOf : ByteArray := prog_8_method_10_code
def yX6_itemOf : MethodName := ⟨RX6, "itemOf", "(II)I"⟩
abbrev cX6_isView : ByteArray := prog_8_method_11_code
def yX6_isView : MethodName := ⟨RX6, "isView", "(I)Z"⟩
abbrev cX6_items : ByteArray := prog_8_method_12_code
def yX6_items : MethodName := ⟨RX6, "items", "(I)I"⟩
abbrev cX6_item : ByteArray := prog_8_method_13_code
def yX6_item : MethodName := ⟨RX6, "item", "(II)I"⟩
abbrev cX6_common : ByteArray := prog_8_method_14_code
def yX6_common : MethodName := ⟨RX6, "common", "(III)I"⟩
abbrev cX6_repeats : ByteArray := prog_8_method_15_code
def yX6_repeats : MethodName := ⟨RX6, "repeats", "(II)I"⟩
abbrev cX6_repeat : ByteArray := prog_8_method_16_code
def yX6_repeat : MethodName := ⟨RX6, "repeat", "(II)I"⟩
abbrev cX6_passages : ByteArray := prog_8_method_17_code
def yX6_passages : MethodName := ⟨RX6, "passages", "(II)I"⟩
abbrev cX6_period : ByteArray := prog_8_method_18_code
def yX6_period : MethodName := ⟨RX6, "period", "(I)I"⟩
abbrev cX6_alike : ByteArray := prog_8_method_19_code
def yX6_alike : MethodName := ⟨RX6, "alike", "(IIII)I"⟩
abbrev cX6_motive : ByteArray := prog_8_method_20_code
def yX6_motive : MethodName := ⟨RX6, "motive", "(II)I"⟩
abbrev cX6_source : ByteArray := prog_8_method_21_code
def yX6_source : MethodName := ⟨RX6, "source", "(II)I"⟩
abbrev cX6_formPitch : ByteArray := prog_8_method_22_code
def yX6_formPitch : MethodName := ⟨RX6, "formPitch", "(II)I"⟩
abbrev cX6_form : ByteArray := prog_8_method_23_code
def yX6_form : MethodName := ⟨RX6, "form", "(III)I"⟩
abbrev cX6_answerPitch : ByteArray := prog_8_method_24_code
def yX6_answerPitch : MethodName := ⟨RX6, "answerPitch", "(III)I"⟩
abbrev cX6_goes : ByteArray := prog_8_method_25_code
def yX6_goes : MethodName := ⟨RX6, "goes", "(I)Z"⟩
abbrev cX6_find : ByteArray := prog_8_method_26_code
def yX6_find : MethodName := ⟨RX6, "find", "(III)I"⟩
abbrev cX6_answer : ByteArray := prog_8_method_27_code
def yX6_answer : MethodName := ⟨RX6, "answer", "(III)I"⟩
abbrev cX6_entries : ByteArray := prog_8_method_28_code
def yX6_entries : MethodName := ⟨RX6, "entries", "(II)I"⟩
abbrev cX6_found : ByteArray := prog_8_method_29_code
def yX6_found : MethodName := ⟨RX6, "found", "(I)I"⟩
abbrev cX6_costOf : ByteArray := prog_8_method_30_code
def yX6_costOf : MethodName := ⟨RX6, "costOf", "(IIII)I"⟩
abbrev cX6_sections : ByteArray := prog_8_method_31_code
def yX6_sections : MethodName := ⟨RX6, "sections", "(II)I"⟩
abbrev cX6_section : ByteArray := prog_8_method_32_code
def yX6_section : MethodName := ⟨RX6, "section", "(I)I"⟩
abbrev cX6_of : ByteArray := prog_8_method_33_code
def yX6_of : MethodName := ⟨RX6, "of", "(I)I"⟩
def RJ6 : String := "java/lang/Integer"
def TJ6 : u_T := fun k => match k with
  | _ => ("", "", "", false)
def tyJ6 : Nat → FieldType := fun k => match k with
  | _ => .int
abbrev wsJ60 : List Cond := u_ws RJ6 TJ6 0
theorem nmJ6 : ∀ a, a < 0 → ∀ b, b < 0 → a ≠ b → (TJ6 a).2.1 ≠ (TJ6 b).2.1 := by decide +kernel
theorem tyJ6_ok : ∀ k, k < 0 → parseFieldDescriptor (TJ6 k).2.2.1 = some (tyJ6 k) := by decide +kernel
abbrev cJ6_signum_0f7a4 : ByteArray := prog_13_method_56_code
def yJ6_signum_0f7a4 : MethodName := ⟨RJ6, "signum", "(I)I"⟩
def RJ9 : String := "java/lang/Math"
def TJ9 : u_T := fun k => match k with
  | _ => ("", "", "", false)
def tyJ9 : Nat → FieldType := fun k => match k with
  | _ => .int
abbrev wsJ90 : List Cond := u_ws RJ9 TJ9 0
theorem nmJ9 : ∀ a, a < 0 → ∀ b, b < 0 → a ≠ b → (TJ9 a).2.1 ≠ (TJ9 b).2.1 := by decide +kernel
theorem tyJ9_ok : ∀ k, k < 0 → parseFieldDescriptor (TJ9 k).2.2.1 = some (tyJ9 k) := by decide +kernel
abbrev cJ9_floorMod_7cf53 : ByteArray := prog_14_method_50_code
def yJ9_floorMod_7cf53 : MethodName := ⟨RJ9, "floorMod", "(II)I"⟩
abbrev cJ9_max_7cf53 : ByteArray := prog_14_method_65_code
def yJ9_max_7cf53 : MethodName := ⟨RJ9, "max", "(II)I"⟩
abbrev cJ9_min_7cf53 : ByteArray := prog_14_method_69_code
def yJ9_min_7cf53 : MethodName := ⟨RJ9, "min", "(II)I"⟩
def RJ0 : String := "java/lang/String"
def TJ0 : u_T := fun k => match k with
  | _ => ("", "", "", false)
def tyJ0 : Nat → FieldType := fun k => match k with
  | _ => .int
abbrev wsJ00 : List Cond := u_ws RJ0 TJ0 0
theorem nmJ0 : ∀ a, a < 0 → ∀ b, b < 0 → a ≠ b → (TJ0 a).2.1 ≠ (TJ0 b).2.1 := by decide +kernel
theorem tyJ0_ok : ∀ k, k < 0 → parseFieldDescriptor (TJ0 k).2.2.1 = some (tyJ0 k) := by decide +kernel
def RL : String := "FormFindsLaw"
abbrev cL_note : ByteArray := method_3_code
def yL_note : MethodName := ⟨RL, "note", "(LFormFinds;II[J)I"⟩
abbrev cL_drop : ByteArray := method_4_code
def yL_drop : MethodName := ⟨RL, "drop", "(LFormFinds;I[J)I"⟩
abbrev cL_items : ByteArray := method_5_code
def yL_items : MethodName := ⟨RL, "items", "(LFormFinds;I[J)I"⟩
abbrev cL_item : ByteArray := method_6_code
def yL_item : MethodName := ⟨RL, "item", "(LFormFinds;II[J)I"⟩
abbrev cL_repeats : ByteArray := method_7_code
def yL_repeats : MethodName := ⟨RL, "repeats", "(LFormFinds;II[J)I"⟩
abbrev cL_repeat : ByteArray := method_8_code
def yL_repeat : MethodName := ⟨RL, "repeat", "(LFormFinds;II[J)I"⟩
abbrev cL_passages : ByteArray := method_9_code
def yL_passages : MethodName := ⟨RL, "passages", "(LFormFinds;II[J)I"⟩
abbrev cL_period : ByteArray := method_10_code
def yL_period : MethodName := ⟨RL, "period", "(LFormFinds;I[J)I"⟩
abbrev cL_alike : ByteArray := method_11_code
def yL_alike : MethodName := ⟨RL, "alike", "(LFormFinds;IIII[J)I"⟩
abbrev cL_motive : ByteArray := method_12_code
def yL_motive : MethodName := ⟨RL, "motive", "(LFormFinds;II[J)I"⟩
abbrev cL_form : ByteArray := method_13_code
def yL_form : MethodName := ⟨RL, "form", "(LFormFinds;III[J)I"⟩
abbrev cL_find : ByteArray := method_14_code
def yL_find : MethodName := ⟨RL, "find", "(LFormFinds;III[J)I"⟩
abbrev cL_answer : ByteArray := method_15_code
def yL_answer : MethodName := ⟨RL, "answer", "(LFormFinds;III[J)I"⟩
abbrev cL_entries : ByteArray := method_16_code
def yL_entries : MethodName := ⟨RL, "entries", "(LFormFinds;II[J)I"⟩
abbrev cL_found : ByteArray := method_17_code
def yL_found : MethodName := ⟨RL, "found", "(LFormFinds;I[J)I"⟩
abbrev cL_sections : ByteArray := method_18_code
def yL_sections : MethodName := ⟨RL, "sections", "(LFormFinds;II[J)I"⟩
abbrev cL_section : ByteArray := method_19_code
def yL_section : MethodName := ⟨RL, "section", "(LFormFinds;I[J)I"⟩
abbrev cL_of : ByteArray := method_20_code
def yL_of : MethodName := ⟨RL, "of", "(LFormFinds;I[J)I"⟩
abbrev cL_law : ByteArray := code
def yL_law : MethodName := ⟨RL, "law", "([I)Z"⟩
abbrev vwCl : List vw_C := [(RX0, TX0, 2), (RX1, TX1, 3), (RX2, TX2, 6), (RX3, TX3, 2), (RX4, TX4, 3), (RX5, TX5, 7), (RX6, TX6, 18)]
/-- the objects of FormFinds$ItemRow, kind 0: what each holds, by its address -/
def GW : List Cond := lw_tbl.filter goodWord
theorem gw_at {w : Cond} (i : Nat) (h : lw_tbl[i]? = some w) (hg : goodWord w = true) : w ∈ GW := List.mem_filter.mpr ⟨List.mem_of_getElem? h, hg⟩
theorem gw_ws {ws : List Cond} (ps : List Nat) (hp : ws = ps.filterMap (fun i => lw_tbl[i]?)) (hg : ws.all goodWord = true) : ∀ w ∈ ws, w ∈ GW := by
  intro w hw
  have h1 := List.all_eq_true.mp hg w hw
  rw [hp] at hw
  obtain ⟨i, -, hi⟩ := List.mem_filterMap.mp hw
  exact gw_at i hi h1
theorem gw_good {w : Cond} (h : w ∈ GW) : w ∈ GW ∧ ((w.onTables && w.keeps) = true ∨ ∃ ty, w = .arrayClass ty) := ⟨h, good_of_word (List.mem_filter.mp h).2⟩
/-- a method's words: its code first, then all good words of the tables -/
abbrev ww (y : MethodName) (c : ByteArray) (n : Nat) (r : Option FieldType) : List Cond := Cond.code y c n r :: GW
abbrev wwW (y : MethodName) (c : ByteArray) (n : Nat) (r : Option FieldType) (hh : List (Nat × Nat × Nat × Nat)) : List Cond := Cond.codeWith y c n r hh :: GW
theorem gw_V {own : String} {ix : Nat} {C : String} {y : MethodName} {c : ByteArray} {n : Nat} {r : Option FieldType} (h1 : Cond.methodLink own ix y ∈ GW) (h2 : Cond.instanceMethod y ∈ GW) (h3 : Cond.selects C y y ∈ GW) (h4 : Cond.initialized C ∈ GW) (h5 : Cond.code y c n r ∈ GW) : GoodIn GW (wsV own ix C y (ww y c n r)) := by
  intro w hw
  refine gw_good ?_
  rcases List.mem_append.mp hw with h | h
  · simp only [List.mem_cons, List.not_mem_nil, or_false] at h
    rcases h with rfl | rfl | rfl | rfl <;> assumption
  · rcases List.mem_cons.mp h with rfl | h
    · exact h5
    · exact h
theorem gw_S {own : String} {ix : Nat} {y : MethodName} {c : ByteArray} {n : Nat} {r : Option FieldType} (h1 : Cond.methodLink own ix y ∈ GW) (h2 : Cond.static y ∈ GW) (h4 : Cond.initialized y.cls ∈ GW) (h5 : Cond.code y c n r ∈ GW) : GoodIn GW (va_wsS own ix y (ww y c n r)) := by
  intro w hw
  refine gw_good ?_
  rcases List.mem_append.mp hw with h | h
  · simp only [List.mem_cons, List.not_mem_nil, or_false] at h
    rcases h with rfl | rfl | rfl <;> assumption
  · rcases List.mem_cons.mp h with rfl | h
    · exact h5
    · exact h
theorem gw_W {own : String} {ix : Nat} {y : MethodName} {c : ByteArray} {n : Nat} {r : Option FieldType} {hh : List (Nat × Nat × Nat × Nat)} (h1 : Cond.methodLink own ix y ∈ GW) (h2 : Cond.static y ∈ GW) (h4 : Cond.initialized y.cls ∈ GW) (h5 : Cond.codeWith y c n r hh ∈ GW) : GoodIn GW (va_wsS own ix y (wwW y c n r hh)) := by
  intro w hw
  refine gw_good ?_
  rcases List.mem_append.mp hw with h | h
  · simp only [List.mem_cons, List.not_mem_nil, or_false] at h
    rcases h with rfl | rfl | rfl <;> assumption
  · rcases List.mem_cons.mp h with rfl | h
    · exact h5
    · exact h
theorem gw_I {y : MethodName} {c : ByteArray} {n : Nat} {r : Option FieldType} (h5 : Cond.code y c n r ∈ GW) : GoodIn GW (ww y c n r) := by
  intro w hw
  refine gw_good ?_
  rcases List.mem_cons.mp hw with rfl | h
  · exact h5
  · exact h
