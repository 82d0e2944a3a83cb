def RX0 : String := "LoveParts$Heir"
def TX0 : u_T := fun k => match k with
  | 0 => ("LoveParts$Heir", "number", "I", true)
  | 1 => ("LoveParts$Heir", "nature", "LLoveParts$Nature;", false)
  | 2 => ("LoveParts$Heir", "love", "I", false)
  | 3 => ("LoveParts$Heir", "tongue", "I", false)
  | 4 => ("LoveParts$Heir", "spoken", "Z", false)
  | 5 => ("LoveParts$Heir", "said", "I", false)
  | 6 => ("LoveParts$Heir", "promised", "I", false)
  | 7 => ("LoveParts$Heir", "land", "I", false)
  | 8 => ("LoveParts$Heir", "told", "I", false)
  | 9 => ("LoveParts$Heir", "hosted", "I", false)
  | _ => ("LoveParts$Heir", "broken", "I", false)
def tyX0 : Nat → FieldType := fun k => match k with
  | 0 => .int
  | 1 => .object "LoveParts$Nature"
  | 2 => .int
  | 3 => .int
  | 4 => .boolean
  | 5 => .int
  | 6 => .int
  | 7 => .int
  | 8 => .int
  | 9 => .int
  | _ => .int
abbrev wsX00 : List Cond := u_ws RX0 TX0 11
theorem nmX0 : ∀ a, a < 11 → ∀ b, b < 11 → a ≠ b → (TX0 a).2.1 ≠ (TX0 b).2.1 := by decide +kernel
theorem tyX0_ok : ∀ k, k < 11 → parseFieldDescriptor (TX0 k).2.2.1 = some (tyX0 k) := by decide +kernel
abbrev cX0_init : ByteArray := prog_2_method_1_code
def yX0_init : MethodName := ⟨RX0, "<init>", "(ILLoveParts$Nature;)V"⟩
abbrev cX0_say : ByteArray := prog_2_method_2_code
def yX0_say : MethodName := ⟨RX0, "say", "(II)V"⟩
abbrev cX0_begin : ByteArray := prog_2_method_3_code
def yX0_begin : MethodName := ⟨RX0, "begin", "()V"⟩
abbrev cX0_take : ByteArray := prog_2_method_4_code
def yX0_take : MethodName := ⟨RX0, "take", "(LLoveParts$Heir;)V"⟩
def RX1 : String := "LoveParts$Ironic"
def TX1 : u_T := fun k => match k with
  | _ => ("", "", "", false)
def tyX1 : Nat → FieldType := fun k => match k with
  | _ => .int
abbrev wsX10 : List Cond := u_ws RX1 TX1 0
theorem nmX1 : ∀ a, a < 0 → ∀ b, b < 0 → a ≠ b → (TX1 a).2.1 ≠ (TX1 b).2.1 := by decide +kernel
theorem tyX1_ok : ∀ k, k < 0 → parseFieldDescriptor (TX1 k).2.2.1 = some (tyX1 k) := by decide +kernel
abbrev cX1_init : ByteArray := prog_3_method_1_code
def yX1_init : MethodName := ⟨RX1, "<init>", "()V"⟩
abbrev cX1_number : ByteArray := prog_3_method_2_code
def yX1_number : MethodName := ⟨RX1, "number", "()I"⟩
abbrev cX1_own : ByteArray := prog_3_method_3_code
def yX1_own : MethodName := ⟨RX1, "own", "(LLoveParts$Heir;I)I"⟩
abbrev cX1_size : ByteArray := prog_3_method_4_code
def yX1_size : MethodName := ⟨RX1, "size", "(LLoveParts$Heir;LLoveParts$Trace;)I"⟩
def RX2 : String := "LoveParts$Joint"
def TX2 : u_T := fun k => match k with
  | _ => ("", "", "", false)
def tyX2 : Nat → FieldType := fun k => match k with
  | _ => .int
abbrev wsX20 : List Cond := u_ws RX2 TX2 0
theorem nmX2 : ∀ a, a < 0 → ∀ b, b < 0 → a ≠ b → (TX2 a).2.1 ≠ (TX2 b).2.1 := by decide +kernel
theorem tyX2_ok : ∀ k, k < 0 → parseFieldDescriptor (TX2 k).2.2.1 = some (tyX2 k) := by decide +kernel
abbrev cX2_init : ByteArray := prog_4_method_1_code
def yX2_init : MethodName := ⟨RX2, "<init>", "()V"⟩
abbrev cX2_number : ByteArray := prog_4_method_2_code
def yX2_number : MethodName := ⟨RX2, "number", "()I"⟩
abbrev cX2_own : ByteArray := prog_4_method_3_code
def yX2_own : MethodName := ⟨RX2, "own", "(LLoveParts$Heir;I)I"⟩
abbrev cX2_mark : ByteArray := prog_4_method_4_code
def yX2_mark : MethodName := ⟨RX2, "mark", "(LLoveParts$Heir;LLoveParts$Trace;)I"⟩
def RX3 : String := "LoveParts$Nature"
def TX3 : u_T := fun k => match k with
  | _ => ("", "", "", false)
def tyX3 : Nat → FieldType := fun k => match k with
  | _ => .int
abbrev wsX30 : List Cond := u_ws RX3 TX3 0
theorem nmX3 : ∀ a, a < 0 → ∀ b, b < 0 → a ≠ b → (TX3 a).2.1 ≠ (TX3 b).2.1 := by decide +kernel
theorem tyX3_ok : ∀ k, k < 0 → parseFieldDescriptor (TX3 k).2.2.1 = some (tyX3 k) := by decide +kernel
abbrev cX3_init : ByteArray := prog_5_method_1_code
def yX3_init : MethodName := ⟨RX3, "<init>", "()V"⟩
abbrev cX3_size : ByteArray := prog_5_method_4_code
def yX3_size : MethodName := ⟨RX3, "size", "(LLoveParts$Heir;LLoveParts$Trace;)I"⟩
abbrev cX3_mark : ByteArray := prog_5_method_5_code
def yX3_mark : MethodName := ⟨RX3, "mark", "(LLoveParts$Heir;LLoveParts$Trace;)I"⟩
def RX4 : String := "LoveParts$Plain"
def TX4 : u_T := fun k => match k with
  | _ => ("", "", "", false)
def tyX4 : Nat → FieldType := fun k => match k with
  | _ => .int
abbrev wsX40 : List Cond := u_ws RX4 TX4 0
theorem nmX4 : ∀ a, a < 0 → ∀ b, b < 0 → a ≠ b → (TX4 a).2.1 ≠ (TX4 b).2.1 := by decide +kernel
theorem tyX4_ok : ∀ k, k < 0 → parseFieldDescriptor (TX4 k).2.2.1 = some (tyX4 k) := by decide +kernel
abbrev cX4_init : ByteArray := prog_6_method_1_code
def yX4_init : MethodName := ⟨RX4, "<init>", "()V"⟩
abbrev cX4_number : ByteArray := prog_6_method_2_code
def yX4_number : MethodName := ⟨RX4, "number", "()I"⟩
abbrev cX4_own : ByteArray := prog_6_method_3_code
def yX4_own : MethodName := ⟨RX4, "own", "(LLoveParts$Heir;I)I"⟩
abbrev cX4_size : ByteArray := prog_6_method_4_code
def yX4_size : MethodName := ⟨RX4, "size", "(LLoveParts$Heir;LLoveParts$Trace;)I"⟩
abbrev cX4_mark : ByteArray := prog_6_method_5_code
def yX4_mark : MethodName := ⟨RX4, "mark", "(LLoveParts$Heir;LLoveParts$Trace;)I"⟩
def RX5 : String := "LoveParts$Reader"
def TX5 : u_T := fun k => match k with
  | 0 => ("LoveParts$Reader", "tape", "[I", true)
  | 1 => ("LoveParts$Reader", "length", "I", false)
  | 2 => ("LoveParts$Reader", "fault", "I", false)
  | 3 => ("LoveParts$Reader", "at", "I", false)
  | 4 => ("LoveParts$Reader", "behind", "I", false)
  | 5 => ("LoveParts$Reader", "token", "I", false)
  | _ => ("LoveParts$Reader", "value", "I", false)
def tyX5 : Nat → FieldType := fun k => match k with
  | 0 => .array .int
  | 1 => .int
  | 2 => .int
  | 3 => .int
  | 4 => .int
  | 5 => .int
  | _ => .int
abbrev wsX50 : List Cond := u_ws RX5 TX5 7
theorem nmX5 : ∀ a, a < 7 → ∀ b, b < 7 → a ≠ b → (TX5 a).2.1 ≠ (TX5 b).2.1 := by decide +kernel
theorem tyX5_ok : ∀ k, k < 7 → parseFieldDescriptor (TX5 k).2.2.1 = some (tyX5 k) := by decide +kernel
abbrev cX5_init : ByteArray := prog_7_method_1_code
def yX5_init : MethodName := ⟨RX5, "<init>", "()V"⟩
abbrev cX5_read : ByteArray := prog_7_method_2_code
def yX5_read : MethodName := ⟨RX5, "read", "(LLoveParts$Realm;[LLoveParts$Nature;)V"⟩
abbrev cX5_readLaw : ByteArray := prog_7_method_3_code
def yX5_readLaw : MethodName := ⟨RX5, "readLaw", "(LLoveParts$Realm;)V"⟩
abbrev cX5_readHeirs : ByteArray := prog_7_method_4_code
def yX5_readHeirs : MethodName := ⟨RX5, "readHeirs", "(LLoveParts$Realm;[LLoveParts$Nature;)V"⟩
abbrev cX5_kindBySort : ByteArray := prog_7_method_5_code
def yX5_kindBySort : MethodName := ⟨RX5, "kindBySort", "(I)I"⟩
abbrev cX5_sign : ByteArray := prog_7_method_6_code
def yX5_sign : MethodName := ⟨RX5, "sign", "(I)V"⟩
abbrev cX5_number : ByteArray := prog_7_method_7_code
def yX5_number : MethodName := ⟨RX5, "number", "(II)I"⟩
abbrev cX5_nextToken : ByteArray := prog_7_method_8_code
def yX5_nextToken : MethodName := ⟨RX5, "nextToken", "()V"⟩
abbrev cX5_readFigures : ByteArray := prog_7_method_9_code
def yX5_readFigures : MethodName := ⟨RX5, "readFigures", "()V"⟩
abbrev cX5_isFigure : ByteArray := prog_7_method_10_code
def yX5_isFigure : MethodName := ⟨RX5, "isFigure", "(I)Z"⟩
def RX6 : String := "LoveParts$Realm"
def TX6 : u_T := fun k => match k with
  | 0 => ("LoveParts$Realm", "all", "[LLoveParts$Heir;", true)
  | 1 => ("LoveParts$Realm", "heirs", "I", false)
  | 2 => ("LoveParts$Realm", "land", "I", false)
  | 3 => ("LoveParts$Realm", "knights", "I", false)
  | 4 => ("LoveParts$Realm", "shrinks", "I", false)
  | 5 => ("LoveParts$Realm", "rule", "I", false)
  | 6 => ("LoveParts$Realm", "host", "I", false)
  | 7 => ("LoveParts$Realm", "month", "I", false)
  | _ => ("LoveParts$Realm", "parted", "Z", false)
def tyX6 : Nat → FieldType := fun k => match k with
  | 0 => .array (.object "LoveParts$Heir")
  | 1 => .int
  | 2 => .int
  | 3 => .int
  | 4 => .int
  | 5 => .int
  | 6 => .int
  | 7 => .int
  | _ => .boolean
abbrev wsX60 : List Cond := u_ws RX6 TX6 9
theorem nmX6 : ∀ a, a < 9 → ∀ b, b < 9 → a ≠ b → (TX6 a).2.1 ≠ (TX6 b).2.1 := by decide +kernel
theorem tyX6_ok : ∀ k, k < 9 → parseFieldDescriptor (TX6 k).2.2.1 = some (tyX6 k) := by decide +kernel
abbrev cX6_init : ByteArray := prog_8_method_1_code
def yX6_init : MethodName := ⟨RX6, "<init>", "(LLoveParts$Nature;)V"⟩
abbrev cX6_begin : ByteArray := prog_8_method_2_code
def yX6_begin : MethodName := ⟨RX6, "begin", "()V"⟩
abbrev cX6_take : ByteArray := prog_8_method_3_code
def yX6_take : MethodName := ⟨RX6, "take", "(LLoveParts$Realm;)V"⟩
abbrev cX6_ownWords : ByteArray := prog_8_method_4_code
def yX6_ownWords : MethodName := ⟨RX6, "ownWords", "(I)I"⟩
abbrev cX6_says : ByteArray := prog_8_method_5_code
def yX6_says : MethodName := ⟨RX6, "says", "(I)I"⟩
abbrev cX6_weight : ByteArray := prog_8_method_6_code
def yX6_weight : MethodName := ⟨RX6, "weight", "(III)I"⟩
abbrev cX6_weigh : ByteArray := prog_8_method_7_code
def yX6_weigh : MethodName := ⟨RX6, "weigh", "(I[I)V"⟩
abbrev cX6_cut : ByteArray := prog_8_method_8_code
def yX6_cut : MethodName := ⟨RX6, "cut", "([I[I)V"⟩
abbrev cX6_divide : ByteArray := prog_8_method_9_code
def yX6_divide : MethodName := ⟨RX6, "divide", "(I[I)V"⟩
abbrev cX6_allowedBy : ByteArray := prog_8_method_10_code
def yX6_allowedBy : MethodName := ⟨RX6, "allowedBy", "(I)I"⟩
abbrev cX6_passMonth : ByteArray := prog_8_method_11_code
def yX6_passMonth : MethodName := ⟨RX6, "passMonth", "()V"⟩
abbrev cX6_brokenByAll : ByteArray := prog_8_method_12_code
def yX6_brokenByAll : MethodName := ⟨RX6, "brokenByAll", "()I"⟩
def RX7 : String := "LoveParts$Row"
def TX7 : u_T := fun k => match k with
  | 0 => ("LoveParts$Row", "items", "[I", true)
  | 1 => ("LoveParts$Row", "lane", "I", false)
  | _ => ("LoveParts$Row", "size", "I", false)
def tyX7 : Nat → FieldType := fun k => match k with
  | 0 => .array .int
  | 1 => .int
  | _ => .int
abbrev wsX70 : List Cond := u_ws RX7 TX7 3
theorem nmX7 : ∀ a, a < 3 → ∀ b, b < 3 → a ≠ b → (TX7 a).2.1 ≠ (TX7 b).2.1 := by decide +kernel
theorem tyX7_ok : ∀ k, k < 3 → parseFieldDescriptor (TX7 k).2.2.1 = some (tyX7 k) := by decide +kernel
abbrev cX7_init : ByteArray := prog_9_method_1_code
def yX7_init : MethodName := ⟨RX7, "<init>", "()V"⟩
abbrev cX7_missing : ByteArray := prog_9_method_2_code
def yX7_missing : MethodName := ⟨RX7, "missing", "()Z"⟩
abbrev cX7_begin : ByteArray := prog_9_method_3_code
def yX7_begin : MethodName := ⟨RX7, "begin", "(II)V"⟩
abbrev cX7_end : ByteArray := prog_9_method_4_code
def yX7_end : MethodName := ⟨RX7, "end", "()V"⟩
abbrev cX7_holds : ByteArray := prog_9_method_5_code
def yX7_holds : MethodName := ⟨RX7, "holds", "(II)Z"⟩
abbrev cX7_fitted : ByteArray := prog_9_method_6_code
def yX7_fitted : MethodName := ⟨RX7, "fitted", "(I)I"⟩
abbrev cX7_tells : ByteArray := prog_9_method_7_code
def yX7_tells : MethodName := ⟨RX7, "tells", "(I[II)Z"⟩
def RX8 : String := "LoveParts$Schooled"
def TX8 : u_T := fun k => match k with
  | _ => ("", "", "", false)
def tyX8 : Nat → FieldType := fun k => match k with
  | _ => .int
abbrev wsX80 : List Cond := u_ws RX8 TX8 0
theorem nmX8 : ∀ a, a < 0 → ∀ b, b < 0 → a ≠ b → (TX8 a).2.1 ≠ (TX8 b).2.1 := by decide +kernel
theorem tyX8_ok : ∀ k, k < 0 → parseFieldDescriptor (TX8 k).2.2.1 = some (tyX8 k) := by decide +kernel
abbrev cX8_init : ByteArray := prog_10_method_1_code
def yX8_init : MethodName := ⟨RX8, "<init>", "()V"⟩
abbrev cX8_number : ByteArray := prog_10_method_2_code
def yX8_number : MethodName := ⟨RX8, "number", "()I"⟩
abbrev cX8_own : ByteArray := prog_10_method_3_code
def yX8_own : MethodName := ⟨RX8, "own", "(LLoveParts$Heir;I)I"⟩
abbrev cX8_size : ByteArray := prog_10_method_4_code
def yX8_size : MethodName := ⟨RX8, "size", "(LLoveParts$Heir;LLoveParts$Trace;)I"⟩
abbrev cX8_mark : ByteArray := prog_10_method_5_code
def yX8_mark : MethodName := ⟨RX8, "mark", "(LLoveParts$Heir;LLoveParts$Trace;)I"⟩
def RX9 : String := "LoveParts$Silent"
def TX9 : u_T := fun k => match k with
  | _ => ("", "", "", false)
def tyX9 : Nat → FieldType := fun k => match k with
  | _ => .int
abbrev wsX90 : List Cond := u_ws RX9 TX9 0
theorem nmX9 : ∀ a, a < 0 → ∀ b, b < 0 → a ≠ b → (TX9 a).2.1 ≠ (TX9 b).2.1 := by decide +kernel
theorem tyX9_ok : ∀ k, k < 0 → parseFieldDescriptor (TX9 k).2.2.1 = some (tyX9 k) := by decide +kernel
abbrev cX9_init : ByteArray := prog_11_method_1_code
def yX9_init : MethodName := ⟨RX9, "<init>", "()V"⟩
abbrev cX9_number : ByteArray := prog_11_method_2_code
def yX9_number : MethodName := ⟨RX9, "number", "()I"⟩
abbrev cX9_own : ByteArray := prog_11_method_3_code
def yX9_own : MethodName := ⟨RX9, "own", "(LLoveParts$Heir;I)I"⟩
abbrev cX9_size : ByteArray := prog_11_method_4_code
def yX9_size : MethodName := ⟨RX9, "size", "(LLoveParts$Heir;LLoveParts$Trace;)I"⟩
abbrev cX9_mark : ByteArray := prog_11_method_5_code
def yX9_mark : MethodName := ⟨RX9, "mark", "(LLoveParts$Heir;LLoveParts$Trace;)I"⟩
def RX10 : String := "LoveParts$Trace"
def TX10 : u_T := fun k => match k with
  | 0 => ("LoveParts$Trace", "bodies", "[I", true)
  | _ => ("LoveParts$Trace", "length", "I", false)
def tyX10 : Nat → FieldType := fun k => match k with
  | 0 => .array .int
  | _ => .int
abbrev wsX100 : List Cond := u_ws RX10 TX10 2
theorem nmX10 : ∀ a, a < 2 → ∀ b, b < 2 → a ≠ b → (TX10 a).2.1 ≠ (TX10 b).2.1 := by decide +kernel
theorem tyX10_ok : ∀ k, k < 2 → parseFieldDescriptor (TX10 k).2.2.1 = some (tyX10 k) := by decide +kernel
abbrev cX10_init : ByteArray := prog_12_method_1_code
def yX10_init : MethodName := ⟨RX10, "<init>", "()V"⟩
abbrev cX10_leave : ByteArray := prog_12_method_2_code
def yX10_leave : MethodName := ⟨RX10, "leave", "(I)V"⟩
def RX11 : String := "LoveParts"
def TX11 : u_T := fun k => match k with
  | 0 => ("LoveParts", "rows", "[LLoveParts$Row;", true)
  | 1 => ("LoveParts", "reader", "LLoveParts$Reader;", true)
  | 2 => ("LoveParts", "natures", "[LLoveParts$Nature;", true)
  | 3 => ("LoveParts", "lastTrace", "LLoveParts$Trace;", true)
  | 4 => ("LoveParts", "now", "LLoveParts$Realm;", true)
  | 5 => ("LoveParts", "trial", "LLoveParts$Realm;", true)
  | 6 => ("LoveParts", "images", "[LLoveParts$Realm;", true)
  | 7 => ("LoveParts", "before", "[LLoveParts$Realm;", true)
  | 8 => ("LoveParts", "acts", "I", false)
  | 9 => ("LoveParts", "nextAct", "I", false)
  | 10 => ("LoveParts", "weights", "[I", true)
  | 11 => ("LoveParts", "shares", "[I", true)
  | 12 => ("LoveParts", "hosts", "[I", true)
  | 13 => ("LoveParts", "bestHosts", "[I", true)
  | 14 => ("LoveParts", "lastFault", "I", false)
  | _ => ("LoveParts", "lastFinding", "I", false)
def tyX11 : Nat → FieldType := fun k => match k with
  | 0 => .array (.object "LoveParts$Row")
  | 1 => .object "LoveParts$Reader"
  | 2 => .array (.object "LoveParts$Nature")
  | 3 => .object "LoveParts$Trace"
  | 4 => .object "LoveParts$Realm"
  | 5 => .object "LoveParts$Realm"
  | 6 => .array (.object "LoveParts$Realm")
  | 7 => .array (.object "LoveParts$Realm")
  | 8 => .int
  | 9 => .int
  | 10 => .array .int
  | 11 => .array .int
  | 12 => .array .int
  | 13 => .array .int
  | 14 => .int
  | _ => .int
abbrev wsX110 : List Cond := u_ws RX11 TX11 16
theorem nmX11 : ∀ a, a < 16 → ∀ b, b < 16 → a ≠ b → (TX11 a).2.1 ≠ (TX11 b).2.1 := by decide +kernel
theorem tyX11_ok : ∀ k, k < 16 → parseFieldDescriptor (TX11 k).2.2.1 = some (tyX11 k) := by decide +kernel
abbrev cX11_init : ByteArray := prog_1_method_1_code
def yX11_init : MethodName := ⟨RX11, "<init>", "()V"⟩
abbrev cX11_row : ByteArray := prog_1_method_2_code
def yX11_row : MethodName := ⟨RX11, "row", "(III)I"⟩
abbrev cX11_set : ByteArray := prog_1_method_3_code
def yX11_set : MethodName := ⟨RX11, "set", "(III)I"⟩
abbrev cX11_copy : ByteArray := prog_1_method_4_code
def yX11_copy : MethodName := ⟨RX11, "copy", "(IIIII)I"⟩
abbrev cX11_drop : ByteArray := prog_1_method_5_code
def yX11_drop : MethodName := ⟨RX11, "drop", "(I)I"⟩
abbrev cX11_feed : ByteArray := prog_1_method_6_code
def yX11_feed : MethodName := ⟨RX11, "feed", "(I)I"⟩
abbrev cX11_realm : ByteArray := prog_1_method_7_code
def yX11_realm : MethodName := ⟨RX11, "realm", "()I"⟩
abbrev cX11_fault : ByteArray := prog_1_method_8_code
def yX11_fault : MethodName := ⟨RX11, "fault", "()I"⟩
abbrev cX11_undo : ByteArray := prog_1_method_9_code
def yX11_undo : MethodName := ⟨RX11, "undo", "()I"⟩
abbrev cX11_speak : ByteArray := prog_1_method_10_code
def yX11_speak : MethodName := ⟨RX11, "speak", "(III)I"⟩
abbrev cX11_part : ByteArray := prog_1_method_11_code
def yX11_part : MethodName := ⟨RX11, "part", "()I"⟩
abbrev cX11_rule : ByteArray := prog_1_method_12_code
def yX11_rule : MethodName := ⟨RX11, "rule", "(I)I"⟩
abbrev cX11_months : ByteArray := prog_1_method_13_code
def yX11_months : MethodName := ⟨RX11, "months", "(I)I"⟩
abbrev cX11_letter : ByteArray := prog_1_method_14_code
def yX11_letter : MethodName := ⟨RX11, "letter", "(II)I"⟩
abbrev cX11_heir : ByteArray := prog_1_method_15_code
def yX11_heir : MethodName := ⟨RX11, "heir", "(II)I"⟩
abbrev cX11_king : ByteArray := prog_1_method_16_code
def yX11_king : MethodName := ⟨RX11, "king", "(I)I"⟩
abbrev cX11_share : ByteArray := prog_1_method_17_code
def yX11_share : MethodName := ⟨RX11, "share", "(II)I"⟩
abbrev cX11_best : ByteArray := prog_1_method_18_code
def yX11_best : MethodName := ⟨RX11, "best", "(II)I"⟩
abbrev cX11_rather : ByteArray := prog_1_method_19_code
def yX11_rather : MethodName := ⟨RX11, "rather", "()I"⟩
abbrev cX11_trueRule : ByteArray := prog_1_method_20_code
def yX11_trueRule : MethodName := ⟨RX11, "trueRule", "()I"⟩
abbrev cX11_order : ByteArray := prog_1_method_21_code
def yX11_order : MethodName := ⟨RX11, "order", "(II)I"⟩
abbrev cX11_ahead : ByteArray := prog_1_method_22_code
def yX11_ahead : MethodName := ⟨RX11, "ahead", "(II)I"⟩
abbrev cX11_down : ByteArray := prog_1_method_23_code
def yX11_down : MethodName := ⟨RX11, "down", "(I)I"⟩
abbrev cX11_loves : ByteArray := prog_1_method_24_code
def yX11_loves : MethodName := ⟨RX11, "loves", "(IIIII)I"⟩
abbrev cX11_map : ByteArray := prog_1_method_25_code
def yX11_map : MethodName := ⟨RX11, "map", "(II)I"⟩
abbrev cX11_who : ByteArray := prog_1_method_26_code
def yX11_who : MethodName := ⟨RX11, "who", "(III)I"⟩
abbrev cX11_odds : ByteArray := prog_1_method_27_code
def yX11_odds : MethodName := ⟨RX11, "odds", "(III)J"⟩
abbrev cX11_drawn : ByteArray := prog_1_method_28_code
def yX11_drawn : MethodName := ⟨RX11, "drawn", "(III)I"⟩
abbrev cX11_image : ByteArray := prog_1_method_29_code
def yX11_image : MethodName := ⟨RX11, "image", "(I)I"⟩
abbrev cX11_restore : ByteArray := prog_1_method_30_code
def yX11_restore : MethodName := ⟨RX11, "restore", "(I)I"⟩
abbrev cX11_kind : ByteArray := prog_1_method_31_code
def yX11_kind : MethodName := ⟨RX11, "kind", "(I)I"⟩
abbrev cX11_as : ByteArray := prog_1_method_32_code
def yX11_as : MethodName := ⟨RX11, "as", "(II)I"⟩
abbrev cX11_ask : ByteArray := prog_1_method_33_code
def yX11_ask : MethodName := ⟨RX11, "ask", "(II)I"⟩
abbrev cX11_trace : ByteArray := prog_1_method_34_code
def yX11_trace : MethodName := ⟨RX11, "trace", "(I)I"⟩
abbrev cX11_count : ByteArray := prog_1_method_35_code
def yX11_count : MethodName := ⟨RX11, "count", "(I)I"⟩
abbrev cX11_status : ByteArray := prog_1_method_36_code
def yX11_status : MethodName := ⟨RX11, "status", "()I"⟩
abbrev cX11_within : ByteArray := prog_1_method_37_code
def yX11_within : MethodName := ⟨RX11, "within", "(III)Z"⟩
abbrev cX11_noRealm : ByteArray := prog_1_method_38_code
def yX11_noRealm : MethodName := ⟨RX11, "noRealm", "()Z"⟩
abbrev cX11_isHeir : ByteArray := prog_1_method_39_code
def yX11_isHeir : MethodName := ⟨RX11, "isHeir", "(I)Z"⟩
abbrev cX11_found : ByteArray := prog_1_method_40_code
def yX11_found : MethodName := ⟨RX11, "found", "(I)I"⟩
abbrev cX11_foundNothing : ByteArray := prog_1_method_41_code
def yX11_foundNothing : MethodName := ⟨RX11, "foundNothing", "(I)I"⟩
abbrev cX11_rowsThere : ByteArray := prog_1_method_42_code
def yX11_rowsThere : MethodName := ⟨RX11, "rowsThere", "()I"⟩
abbrev cX11_keepForUndo : ByteArray := prog_1_method_43_code
def yX11_keepForUndo : MethodName := ⟨RX11, "keepForUndo", "()V"⟩
abbrev cX11_forgetActs : ByteArray := prog_1_method_44_code
def yX11_forgetActs : MethodName := ⟨RX11, "forgetActs", "()V"⟩
abbrev cX11_firstGreatest : ByteArray := prog_1_method_45_code
def yX11_firstGreatest : MethodName := ⟨RX11, "firstGreatest", "([II)I"⟩
abbrev cX11_isOfKind : ByteArray := prog_1_method_46_code
def yX11_isOfKind : MethodName := ⟨RX11, "isOfKind", "(LLoveParts$Nature;I)Z"⟩
abbrev cX11_gainNow : ByteArray := prog_1_method_47_code
def yX11_gainNow : MethodName := ⟨RX11, "gainNow", "(I)I"⟩
abbrev cX11_gainBySpeech : ByteArray := prog_1_method_48_code
def yX11_gainBySpeech : MethodName := ⟨RX11, "gainBySpeech", "(II)I"⟩
abbrev cX11_bestSpeech : ByteArray := prog_1_method_49_code
def yX11_bestSpeech : MethodName := ⟨RX11, "bestSpeech", "(I)I"⟩
abbrev cX11_truestHeir : ByteArray := prog_1_method_50_code
def yX11_truestHeir : MethodName := ⟨RX11, "truestHeir", "()I"⟩
abbrev cX11_truestGetsMost : ByteArray := prog_1_method_51_code
def yX11_truestGetsMost : MethodName := ⟨RX11, "truestGetsMost", "(II)Z"⟩
abbrev cX11_findBestHosts : ByteArray := prog_1_method_52_code
def yX11_findBestHosts : MethodName := ⟨RX11, "findBestHosts", "(I)I"⟩
abbrev cX11_isOrder : ByteArray := prog_1_method_53_code
def yX11_isOrder : MethodName := ⟨RX11, "isOrder", "(I)Z"⟩
abbrev cX11_knightsByHosts : ByteArray := prog_1_method_54_code
def yX11_knightsByHosts : MethodName := ⟨RX11, "knightsByHosts", "(I)I"⟩
abbrev cX11_knightsGoAs : ByteArray := prog_1_method_55_code
def yX11_knightsGoAs : MethodName := ⟨RX11, "knightsGoAs", "(LLoveParts$Row;II)Z"⟩
abbrev cX11_casesOf : ByteArray := prog_1_method_56_code
def yX11_casesOf : MethodName := ⟨RX11, "casesOf", "(II)I"⟩
abbrev cX11_greatestWithLiars : ByteArray := prog_1_method_57_code
def yX11_greatestWithLiars : MethodName := ⟨RX11, "greatestWithLiars", "(I)I"⟩
abbrev cX11_commonDivisor : ByteArray := prog_1_method_58_code
def yX11_commonDivisor : MethodName := ⟨RX11, "commonDivisor", "(JJ)J"⟩
def RX12 : String := "LovePartsModel"
def TX12 : u_T := fun k => match k with
  | 0 => ("LovePartsModel", "lanes", "[I", true)
  | 1 => ("LovePartsModel", "sizes", "[I", true)
  | 2 => ("LovePartsModel", "items", "[I", true)
  | 3 => ("LovePartsModel", "status", "I", false)
  | 4 => ("LovePartsModel", "isThere", "Z", false)
  | 5 => ("LovePartsModel", "st", "[I", true)
  | 6 => ("LovePartsModel", "moved", "[I", true)
  | 7 => ("LovePartsModel", "tape", "[I", true)
  | 8 => ("LovePartsModel", "bytes", "I", false)
  | 9 => ("LovePartsModel", "latest", "I", false)
  | 10 => ("LovePartsModel", "place", "I", false)
  | 11 => ("LovePartsModel", "token", "I", false)
  | 12 => ("LovePartsModel", "value", "I", false)
  | 13 => ("LovePartsModel", "begins", "I", false)
  | 14 => ("LovePartsModel", "wrong", "I", false)
  | 15 => ("LovePartsModel", "read", "[I", true)
  | 16 => ("LovePartsModel", "shares", "[I", true)
  | 17 => ("LovePartsModel", "acts", "[I", true)
  | 18 => ("LovePartsModel", "actMany", "I", false)
  | 19 => ("LovePartsModel", "aside", "[I", true)
  | 20 => ("LovePartsModel", "bestSpeech", "I", false)
  | 21 => ("LovePartsModel", "row", "[I", true)
  | 22 => ("LovePartsModel", "isKept", "[Z", true)
  | 23 => ("LovePartsModel", "kept", "[I", true)
  | 24 => ("LovePartsModel", "trace", "[I", true)
  | _ => ("LovePartsModel", "traced", "I", false)
def tyX12 : Nat → FieldType := fun k => match k with
  | 0 => .array .int
  | 1 => .array .int
  | 2 => .array .int
  | 3 => .int
  | 4 => .boolean
  | 5 => .array .int
  | 6 => .array .int
  | 7 => .array .int
  | 8 => .int
  | 9 => .int
  | 10 => .int
  | 11 => .int
  | 12 => .int
  | 13 => .int
  | 14 => .int
  | 15 => .array .int
  | 16 => .array .int
  | 17 => .array .int
  | 18 => .int
  | 19 => .array .int
  | 20 => .int
  | 21 => .array .int
  | 22 => .array .boolean
  | 23 => .array .int
  | 24 => .array .int
  | _ => .int
abbrev wsX120 : List Cond := u_ws RX12 TX12 26
theorem nmX12 : ∀ a, a < 26 → ∀ b, b < 26 → a ≠ b → (TX12 a).2.1 ≠ (TX12 b).2.1 := by decide +kernel
theorem tyX12_ok : ∀ k, k < 26 → parseFieldDescriptor (TX12 k).2.2.1 = some (tyX12 k) := by decide +kernel
abbrev cX12_init : ByteArray := prog_14_method_1_code
def yX12_init : MethodName := ⟨RX12, "<init>", "()V"⟩
abbrev cX12_in : ByteArray := prog_14_method_2_code
def yX12_in : MethodName := ⟨RX12, "in", "(JJJ)Z"⟩
abbrev cX12_has : ByteArray := prog_14_method_3_code
def yX12_has : MethodName := ⟨RX12, "has", "(II)Z"⟩
abbrev cX12_find : ByteArray := prog_14_method_4_code
def yX12_find : MethodName := ⟨RX12, "find", "(I)I"⟩
abbrev cX12_well : ByteArray := prog_14_method_5_code
def yX12_well : MethodName := ⟨RX12, "well", "(I)I"⟩
abbrev cX12_isRow : ByteArray := prog_14_method_6_code
def yX12_isRow : MethodName := ⟨RX12, "isRow", "(I)Z"⟩
abbrev cX12_row : ByteArray := prog_14_method_7_code
def yX12_row : MethodName := ⟨RX12, "row", "(III)I"⟩
abbrev cX12_asLane : ByteArray := prog_14_method_8_code
def yX12_asLane : MethodName := ⟨RX12, "asLane", "(II)I"⟩
abbrev cX12_set : ByteArray := prog_14_method_9_code
def yX12_set : MethodName := ⟨RX12, "set", "(III)I"⟩
abbrev cX12_copy : ByteArray := prog_14_method_10_code
def yX12_copy : MethodName := ⟨RX12, "copy", "(IIIII)I"⟩
abbrev cX12_drop : ByteArray := prog_14_method_11_code
def yX12_drop : MethodName := ⟨RX12, "drop", "(I)I"⟩
abbrev cX12_feed : ByteArray := prog_14_method_12_code
def yX12_feed : MethodName := ⟨RX12, "feed", "(I)I"⟩
abbrev cX12_nextToken : ByteArray := prog_14_method_13_code
def yX12_nextToken : MethodName := ⟨RX12, "nextToken", "()V"⟩
abbrev cX12_faults : ByteArray := prog_14_method_14_code
def yX12_faults : MethodName := ⟨RX12, "faults", "(I)Z"⟩
abbrev cX12_isLetter : ByteArray := prog_14_method_15_code
def yX12_isLetter : MethodName := ⟨RX12, "isLetter", "(I)Z"⟩
abbrev cX12_takes : ByteArray := prog_14_method_16_code
def yX12_takes : MethodName := ⟨RX12, "takes", "(I)Z"⟩
abbrev cX12_takesNumber : ByteArray := prog_14_method_17_code
def yX12_takesNumber : MethodName := ⟨RX12, "takesNumber", "(IIII)Z"⟩
abbrev cX12_readHeir : ByteArray := prog_14_method_18_code
def yX12_readHeir : MethodName := ⟨RX12, "readHeir", "(I)Z"⟩
abbrev cX12_readRealm : ByteArray := prog_14_method_19_code
def yX12_readRealm : MethodName := ⟨RX12, "readRealm", "()Z"⟩
abbrev cX12_realm : ByteArray := prog_14_method_20_code
def yX12_realm : MethodName := ⟨RX12, "realm", "()I"⟩
abbrev cX12_fault : ByteArray := prog_14_method_21_code
def yX12_fault : MethodName := ⟨RX12, "fault", "()I"⟩
abbrev cX12_isHeir : ByteArray := prog_14_method_22_code
def yX12_isHeir : MethodName := ⟨RX12, "isHeir", "(I)Z"⟩
abbrev cX12_ownOf : ByteArray := prog_14_method_23_code
def yX12_ownOf : MethodName := ⟨RX12, "ownOf", "(I)I"⟩
abbrev cX12_says : ByteArray := prog_14_method_24_code
def yX12_says : MethodName := ⟨RX12, "says", "(I)I"⟩
abbrev cX12_weightOf : ByteArray := prog_14_method_25_code
def yX12_weightOf : MethodName := ⟨RX12, "weightOf", "(II)I"⟩
abbrev cX12_findShares : ByteArray := prog_14_method_26_code
def yX12_findShares : MethodName := ⟨RX12, "findShares", "(I)V"⟩
abbrev cX12_allowed : ByteArray := prog_14_method_27_code
def yX12_allowed : MethodName := ⟨RX12, "allowed", "(I)I"⟩
abbrev cX12_note : ByteArray := prog_14_method_28_code
def yX12_note : MethodName := ⟨RX12, "note", "()V"⟩
abbrev cX12_undo : ByteArray := prog_14_method_29_code
def yX12_undo : MethodName := ⟨RX12, "undo", "()I"⟩
abbrev cX12_say : ByteArray := prog_14_method_30_code
def yX12_say : MethodName := ⟨RX12, "say", "(II)V"⟩
abbrev cX12_speak : ByteArray := prog_14_method_31_code
def yX12_speak : MethodName := ⟨RX12, "speak", "(III)I"⟩
abbrev cX12_part : ByteArray := prog_14_method_32_code
def yX12_part : MethodName := ⟨RX12, "part", "()I"⟩
abbrev cX12_rule : ByteArray := prog_14_method_33_code
def yX12_rule : MethodName := ⟨RX12, "rule", "(I)I"⟩
abbrev cX12_oneMonth : ByteArray := prog_14_method_34_code
def yX12_oneMonth : MethodName := ⟨RX12, "oneMonth", "()V"⟩
abbrev cX12_months : ByteArray := prog_14_method_35_code
def yX12_months : MethodName := ⟨RX12, "months", "(I)I"⟩
abbrev cX12_letter : ByteArray := prog_14_method_36_code
def yX12_letter : MethodName := ⟨RX12, "letter", "(II)I"⟩
abbrev cX12_heir : ByteArray := prog_14_method_37_code
def yX12_heir : MethodName := ⟨RX12, "heir", "(II)I"⟩
abbrev cX12_king : ByteArray := prog_14_method_38_code
def yX12_king : MethodName := ⟨RX12, "king", "(I)I"⟩
abbrev cX12_putAside : ByteArray := prog_14_method_39_code
def yX12_putAside : MethodName := ⟨RX12, "putAside", "()V"⟩
abbrev cX12_takeBack : ByteArray := prog_14_method_40_code
def yX12_takeBack : MethodName := ⟨RX12, "takeBack", "()V"⟩
abbrev cX12_share : ByteArray := prog_14_method_41_code
def yX12_share : MethodName := ⟨RX12, "share", "(II)I"⟩
abbrev cX12_bestOf : ByteArray := prog_14_method_42_code
def yX12_bestOf : MethodName := ⟨RX12, "bestOf", "(I)I"⟩
abbrev cX12_best : ByteArray := prog_14_method_43_code
def yX12_best : MethodName := ⟨RX12, "best", "(II)I"⟩
abbrev cX12_rather : ByteArray := prog_14_method_44_code
def yX12_rather : MethodName := ⟨RX12, "rather", "()I"⟩
abbrev cX12_isTrue : ByteArray := prog_14_method_45_code
def yX12_isTrue : MethodName := ⟨RX12, "isTrue", "(II)Z"⟩
abbrev cX12_trueRule : ByteArray := prog_14_method_46_code
def yX12_trueRule : MethodName := ⟨RX12, "trueRule", "()I"⟩
abbrev cX12_isOrder : ByteArray := prog_14_method_47_code
def yX12_isOrder : MethodName := ⟨RX12, "isOrder", "(I)Z"⟩
abbrev cX12_order : ByteArray := prog_14_method_48_code
def yX12_order : MethodName := ⟨RX12, "order", "(II)I"⟩
abbrev cX12_brokenAll : ByteArray := prog_14_method_49_code
def yX12_brokenAll : MethodName := ⟨RX12, "brokenAll", "()I"⟩
abbrev cX12_ahead : ByteArray := prog_14_method_50_code
def yX12_ahead : MethodName := ⟨RX12, "ahead", "(II)I"⟩
abbrev cX12_down : ByteArray := prog_14_method_51_code
def yX12_down : MethodName := ⟨RX12, "down", "(I)I"⟩
abbrev cX12_lacks : ByteArray := prog_14_method_52_code
def yX12_lacks : MethodName := ⟨RX12, "lacks", "(III)I"⟩
abbrev cX12_loves : ByteArray := prog_14_method_53_code
def yX12_loves : MethodName := ⟨RX12, "loves", "(IIIII)I"⟩
abbrev cX12_isSo : ByteArray := prog_14_method_54_code
def yX12_isSo : MethodName := ⟨RX12, "isSo", "(II)Z"⟩
abbrev cX12_map : ByteArray := prog_14_method_55_code
def yX12_map : MethodName := ⟨RX12, "map", "(II)I"⟩
abbrev cX12_who : ByteArray := prog_14_method_56_code
def yX12_who : MethodName := ⟨RX12, "who", "(III)I"⟩
abbrev cX12_odds : ByteArray := prog_14_method_57_code
def yX12_odds : MethodName := ⟨RX12, "odds", "(III)J"⟩
abbrev cX12_drawn : ByteArray := prog_14_method_58_code
def yX12_drawn : MethodName := ⟨RX12, "drawn", "(III)I"⟩
abbrev cX12_image : ByteArray := prog_14_method_59_code
def yX12_image : MethodName := ⟨RX12, "image", "(I)I"⟩
abbrev cX12_restore : ByteArray := prog_14_method_60_code
def yX12_restore : MethodName := ⟨RX12, "restore", "(I)I"⟩
abbrev cX12_kind : ByteArray := prog_14_method_61_code
def yX12_kind : MethodName := ⟨RX12, "kind", "(I)I"⟩
abbrev cX12_isKind : ByteArray := prog_14_method_62_code
def yX12_isKind : MethodName := ⟨RX12, "isKind", "(II)Z"⟩
abbrev cX12_as : ByteArray := prog_14_method_63_code
def yX12_as : MethodName := ⟨RX12, "as", "(II)I"⟩
abbrev cX12_begin : ByteArray := prog_14_method_64_code
def yX12_begin : MethodName := ⟨RX12, "begin", "(I)V"⟩
abbrev cX12_lent : ByteArray := prog_14_method_65_code
def yX12_lent : MethodName := ⟨RX12, "lent", "(II)I"⟩
abbrev cX12_plainMark : ByteArray := prog_14_method_66_code
def yX12_plainMark : MethodName := ⟨RX12, "plainMark", "(I)I"⟩
abbrev cX12_silentSize : ByteArray := prog_14_method_67_code
def yX12_silentSize : MethodName := ⟨RX12, "silentSize", "(I)I"⟩
abbrev cX12_sizeOfSilent : ByteArray := prog_14_method_68_code
def yX12_sizeOfSilent : MethodName := ⟨RX12, "sizeOfSilent", "(I)I"⟩
abbrev cX12_markOf : ByteArray := prog_14_method_69_code
def yX12_markOf : MethodName := ⟨RX12, "markOf", "(I)I"⟩
abbrev cX12_plainSize : ByteArray := prog_14_method_70_code
def yX12_plainSize : MethodName := ⟨RX12, "plainSize", "(I)I"⟩
abbrev cX12_sizeOf : ByteArray := prog_14_method_71_code
def yX12_sizeOf : MethodName := ⟨RX12, "sizeOf", "(I)I"⟩
abbrev cX12_ask : ByteArray := prog_14_method_72_code
def yX12_ask : MethodName := ⟨RX12, "ask", "(II)I"⟩
abbrev cX12_trace : ByteArray := prog_14_method_73_code
def yX12_trace : MethodName := ⟨RX12, "trace", "(I)I"⟩
abbrev cX12_count : ByteArray := prog_14_method_74_code
def yX12_count : MethodName := ⟨RX12, "count", "(I)I"⟩
abbrev cX12_status : ByteArray := prog_14_method_75_code
def yX12_status : MethodName := ⟨RX12, "status", "()I"⟩
def RJ9 : String := "java/lang/Math"
def TJ9 : u_T := fun k => match k with
  | _ => ("", "", "", false)
def tyJ9 : Nat → FieldType := fun k => match k with
  | _ => .int
abbrev wsJ90 : List Cond := u_ws RJ9 TJ9 0
theorem nmJ9 : ∀ a, a < 0 → ∀ b, b < 0 → a ≠ b → (TJ9 a).2.1 ≠ (TJ9 b).2.1 := by decide +kernel
theorem tyJ9_ok : ∀ k, k < 0 → parseFieldDescriptor (TJ9 k).2.2.1 = some (tyJ9 k) := by decide +kernel
abbrev cJ9_max_7cf53 : ByteArray := prog_15_method_65_code
def yJ9_max_7cf53 : MethodName := ⟨RJ9, "max", "(II)I"⟩
abbrev cJ9_max_f86c9 : ByteArray := prog_15_method_66_code
def yJ9_max_f86c9 : MethodName := ⟨RJ9, "max", "(JJ)J"⟩
abbrev cJ9_min_7cf53 : ByteArray := prog_15_method_69_code
def yJ9_min_7cf53 : MethodName := ⟨RJ9, "min", "(II)I"⟩
def RJ10 : String := "java/lang/System"
def TJ10 : u_T := fun k => match k with
  | _ => ("", "", "", false)
def tyJ10 : Nat → FieldType := fun k => match k with
  | _ => .int
abbrev wsJ100 : List Cond := u_ws RJ10 TJ10 0
theorem nmJ10 : ∀ a, a < 0 → ∀ b, b < 0 → a ≠ b → (TJ10 a).2.1 ≠ (TJ10 b).2.1 := by decide +kernel
theorem tyJ10_ok : ∀ k, k < 0 → parseFieldDescriptor (TJ10 k).2.2.1 = some (tyJ10 k) := by decide +kernel
def RL : String := "LovePartsLaw"
abbrev cL_law : ByteArray := code
def yL_law : MethodName := ⟨RL, "law", "([I)Z"⟩
abbrev vwCl : List vw_C := [(RX0, TX0, 11), (RX1, TX1, 0), (RX2, TX2, 0), (RX4, TX4, 0), (RX5, TX5, 7), (RX6, TX6, 9), (RX7, TX7, 3), (RX8, TX8, 0), (RX9, TX9, 0), (RX10, TX10, 2), (RX11, TX11, 16), (RX12, TX12, 26)]
theorem inX0 : ∀ w ∈ wsX00, w ∈ lw_tbl := by decide +kernel
theorem inX1 : ∀ w ∈ wsX10, w ∈ lw_tbl := by decide +kernel
theorem inX2 : ∀ w ∈ wsX20, w ∈ lw_tbl := by decide +kernel
theorem inX4 : ∀ w ∈ wsX40, w ∈ lw_tbl := by decide +kernel
theorem inX5 : ∀ w ∈ wsX50, w ∈ lw_tbl := by decide +kernel
theorem inX6 : ∀ w ∈ wsX60, w ∈ lw_tbl := by decide +kernel
theorem inX7 : ∀ w ∈ wsX70, w ∈ lw_tbl := by decide +kernel
theorem inX8 : ∀ w ∈ wsX80, w ∈ lw_tbl := by decide +kernel
theorem inX9 : ∀ w ∈ wsX90, w ∈ lw_tbl := by decide +kernel
theorem inX10 : ∀ w ∈ wsX100, w ∈ lw_tbl := by decide +kernel
theorem inX11 : ∀ w ∈ wsX110, w ∈ lw_tbl := by decide +kernel
theorem inX12 : ∀ w ∈ wsX120, w ∈ lw_tbl := by decide +kernel
theorem dX0_init_0 : decode cX0_init 0 = .ok (.aload_n 0, 1) := by decide +kernel
theorem dX0_init_1 : decode cX0_init 1 = .ok (.invokespecial 3, 3) := by decide +kernel
theorem dX0_init_4 : decode cX0_init 4 = .ok (.aload_n 0, 1) := by decide +kernel
theorem dX0_init_5 : decode cX0_init 5 = .ok (.iconst 0, 1) := by decide +kernel
theorem dX0_init_6 : decode cX0_init 6 = .ok (.putfield 9, 3) := by decide +kernel
theorem dX0_init_9 : decode cX0_init 9 = .ok (.aload_n 0, 1) := by decide +kernel
theorem dX0_init_10 : decode cX0_init 10 = .ok (.iconst 0, 1) := by decide +kernel
theorem dX0_init_11 : decode cX0_init 11 = .ok (.putfield 15, 3) := by decide +kernel
theorem dX0_init_14 : decode cX0_init 14 = .ok (.aload_n 0, 1) := by decide +kernel
theorem dX0_init_15 : decode cX0_init 15 = .ok (.iconst 0, 1) := by decide +kernel
theorem dX0_init_16 : decode cX0_init 16 = .ok (.putfield 18, 3) := by decide +kernel
theorem dX0_init_19 : decode cX0_init 19 = .ok (.aload_n 0, 1) := by decide +kernel
theorem dX0_init_20 : decode cX0_init 20 = .ok (.iconst 0, 1) := by decide +kernel
theorem dX0_init_21 : decode cX0_init 21 = .ok (.putfield 22, 3) := by decide +kernel
theorem dX0_init_24 : decode cX0_init 24 = .ok (.aload_n 0, 1) := by decide +kernel
theorem dX0_init_25 : decode cX0_init 25 = .ok (.iconst 0, 1) := by decide +kernel
theorem dX0_init_26 : decode cX0_init 26 = .ok (.putfield 25, 3) := by decide +kernel
theorem dX0_init_29 : decode cX0_init 29 = .ok (.aload_n 0, 1) := by decide +kernel
theorem dX0_init_30 : decode cX0_init 30 = .ok (.iconst 0, 1) := by decide +kernel
theorem dX0_init_31 : decode cX0_init 31 = .ok (.putfield 28, 3) := by decide +kernel
theorem dX0_init_34 : decode cX0_init 34 = .ok (.aload_n 0, 1) := by decide +kernel
theorem dX0_init_35 : decode cX0_init 35 = .ok (.ldc 31, 2) := by decide +kernel
theorem dX0_init_37 : decode cX0_init 37 = .ok (.putfield 32, 3) := by decide +kernel
theorem dX0_init_40 : decode cX0_init 40 = .ok (.aload_n 0, 1) := by decide +kernel
theorem dX0_init_41 : decode cX0_init 41 = .ok (.iconst 0, 1) := by decide +kernel
theorem dX0_init_42 : decode cX0_init 42 = .ok (.putfield 35, 3) := by decide +kernel
theorem dX0_init_45 : decode cX0_init 45 = .ok (.aload_n 0, 1) := by decide +kernel
theorem dX0_init_46 : decode cX0_init 46 = .ok (.iconst 0, 1) := by decide +kernel
theorem dX0_init_47 : decode cX0_init 47 = .ok (.putfield 38, 3) := by decide +kernel
theorem dX0_init_50 : decode cX0_init 50 = .ok (.aload_n 0, 1) := by decide +kernel
theorem dX0_init_51 : decode cX0_init 51 = .ok (.iload_n 1, 1) := by decide +kernel
theorem dX0_init_52 : decode cX0_init 52 = .ok (.putfield 41, 3) := by decide +kernel
theorem dX0_init_55 : decode cX0_init 55 = .ok (.aload_n 0, 1) := by decide +kernel
theorem dX0_init_56 : decode cX0_init 56 = .ok (.aload_n 2, 1) := by decide +kernel
theorem dX0_init_57 : decode cX0_init 57 = .ok (.putfield 44, 3) := by decide +kernel
theorem dX0_init_60 : decode cX0_init 60 = .ok (.return_, 1) := by decide +kernel
theorem dX0_say_0 : decode cX0_say 0 = .ok (.aload_n 0, 1) := by decide +kernel
theorem dX0_say_1 : decode cX0_say 1 = .ok (.iconst 1, 1) := by decide +kernel
theorem dX0_say_2 : decode cX0_say 2 = .ok (.putfield 18, 3) := by decide +kernel
theorem dX0_say_5 : decode cX0_say 5 = .ok (.aload_n 0, 1) := by decide +kernel
theorem dX0_say_6 : decode cX0_say 6 = .ok (.iload_n 1, 1) := by decide +kernel
theorem dX0_say_7 : decode cX0_say 7 = .ok (.putfield 22, 3) := by decide +kernel
theorem dX0_say_10 : decode cX0_say 10 = .ok (.aload_n 0, 1) := by decide +kernel
theorem dX0_say_11 : decode cX0_say 11 = .ok (.iload_n 2, 1) := by decide +kernel
theorem dX0_say_12 : decode cX0_say 12 = .ok (.putfield 25, 3) := by decide +kernel
theorem dX0_say_15 : decode cX0_say 15 = .ok (.return_, 1) := by decide +kernel
theorem dX0_begin_0 : decode cX0_begin 0 = .ok (.aload_n 0, 1) := by decide +kernel
theorem dX0_begin_1 : decode cX0_begin 1 = .ok (.iconst 0, 1) := by decide +kernel
theorem dX0_begin_2 : decode cX0_begin 2 = .ok (.putfield 18, 3) := by decide +kernel
theorem dX0_begin_5 : decode cX0_begin 5 = .ok (.aload_n 0, 1) := by decide +kernel
theorem dX0_begin_6 : decode cX0_begin 6 = .ok (.iconst 0, 1) := by decide +kernel
theorem dX0_begin_7 : decode cX0_begin 7 = .ok (.putfield 22, 3) := by decide +kernel
theorem dX0_begin_10 : decode cX0_begin 10 = .ok (.aload_n 0, 1) := by decide +kernel
theorem dX0_begin_11 : decode cX0_begin 11 = .ok (.iconst 0, 1) := by decide +kernel
theorem dX0_begin_12 : decode cX0_begin 12 = .ok (.putfield 25, 3) := by decide +kernel
theorem dX0_begin_15 : decode cX0_begin 15 = .ok (.aload_n 0, 1) := by decide +kernel
theorem dX0_begin_16 : decode cX0_begin 16 = .ok (.iconst 0, 1) := by decide +kernel
theorem dX0_begin_17 : decode cX0_begin 17 = .ok (.putfield 28, 3) := by decide +kernel
theorem dX0_begin_20 : decode cX0_begin 20 = .ok (.aload_n 0, 1) := by decide +kernel
theorem dX0_begin_21 : decode cX0_begin 21 = .ok (.ldc 31, 2) := by decide +kernel
theorem dX0_begin_23 : decode cX0_begin 23 = .ok (.putfield 32, 3) := by decide +kernel
theorem dX0_begin_26 : decode cX0_begin 26 = .ok (.aload_n 0, 1) := by decide +kernel
theorem dX0_begin_27 : decode cX0_begin 27 = .ok (.iconst 0, 1) := by decide +kernel
theorem dX0_begin_28 : decode cX0_begin 28 = .ok (.putfield 35, 3) := by decide +kernel
theorem dX0_begin_31 : decode cX0_begin 31 = .ok (.aload_n 0, 1) := by decide +kernel
theorem dX0_begin_32 : decode cX0_begin 32 = .ok (.iconst 0, 1) := by decide +kernel
theorem dX0_begin_33 : decode cX0_begin 33 = .ok (.putfield 38, 3) := by decide +kernel
theorem dX0_begin_36 : decode cX0_begin 36 = .ok (.return_, 1) := by decide +kernel
theorem dX0_take_0 : decode cX0_take 0 = .ok (.aload_n 0, 1) := by decide +kernel
theorem dX0_take_1 : decode cX0_take 1 = .ok (.aload_n 1, 1) := by decide +kernel
theorem dX0_take_2 : decode cX0_take 2 = .ok (.getfield 44, 3) := by decide +kernel
theorem dX0_take_5 : decode cX0_take 5 = .ok (.putfield 44, 3) := by decide +kernel
theorem dX0_take_8 : decode cX0_take 8 = .ok (.aload_n 0, 1) := by decide +kernel
theorem dX0_take_9 : decode cX0_take 9 = .ok (.aload_n 1, 1) := by decide +kernel
theorem dX0_take_10 : decode cX0_take 10 = .ok (.getfield 9, 3) := by decide +kernel
theorem dX0_take_13 : decode cX0_take 13 = .ok (.putfield 9, 3) := by decide +kernel
theorem dX0_take_16 : decode cX0_take 16 = .ok (.aload_n 0, 1) := by decide +kernel
theorem dX0_take_17 : decode cX0_take 17 = .ok (.aload_n 1, 1) := by decide +kernel
theorem dX0_take_18 : decode cX0_take 18 = .ok (.getfield 15, 3) := by decide +kernel
theorem dX0_take_21 : decode cX0_take 21 = .ok (.putfield 15, 3) := by decide +kernel
theorem dX0_take_24 : decode cX0_take 24 = .ok (.aload_n 0, 1) := by decide +kernel
theorem dX0_take_25 : decode cX0_take 25 = .ok (.aload_n 1, 1) := by decide +kernel
theorem dX0_take_26 : decode cX0_take 26 = .ok (.getfield 18, 3) := by decide +kernel
theorem dX0_take_29 : decode cX0_take 29 = .ok (.putfield 18, 3) := by decide +kernel
theorem dX0_take_32 : decode cX0_take 32 = .ok (.aload_n 0, 1) := by decide +kernel
theorem dX0_take_33 : decode cX0_take 33 = .ok (.aload_n 1, 1) := by decide +kernel
theorem dX0_take_34 : decode cX0_take 34 = .ok (.getfield 22, 3) := by decide +kernel
theorem dX0_take_37 : decode cX0_take 37 = .ok (.putfield 22, 3) := by decide +kernel
theorem dX0_take_40 : decode cX0_take 40 = .ok (.aload_n 0, 1) := by decide +kernel
theorem dX0_take_41 : decode cX0_take 41 = .ok (.aload_n 1, 1) := by decide +kernel
theorem dX0_take_42 : decode cX0_take 42 = .ok (.getfield 25, 3) := by decide +kernel
theorem dX0_take_45 : decode cX0_take 45 = .ok (.putfield 25, 3) := by decide +kernel
theorem dX0_take_48 : decode cX0_take 48 = .ok (.aload_n 0, 1) := by decide +kernel
theorem dX0_take_49 : decode cX0_take 49 = .ok (.aload_n 1, 1) := by decide +kernel
theorem dX0_take_50 : decode cX0_take 50 = .ok (.getfield 28, 3) := by decide +kernel
theorem dX0_take_53 : decode cX0_take 53 = .ok (.putfield 28, 3) := by decide +kernel
theorem dX0_take_56 : decode cX0_take 56 = .ok (.aload_n 0, 1) := by decide +kernel
theorem dX0_take_57 : decode cX0_take 57 = .ok (.aload_n 1, 1) := by decide +kernel
theorem dX0_take_58 : decode cX0_take 58 = .ok (.getfield 32, 3) := by decide +kernel
theorem dX0_take_61 : decode cX0_take 61 = .ok (.putfield 32, 3) := by decide +kernel
theorem dX0_take_64 : decode cX0_take 64 = .ok (.aload_n 0, 1) := by decide +kernel
theorem dX0_take_65 : decode cX0_take 65 = .ok (.aload_n 1, 1) := by decide +kernel
theorem dX0_take_66 : decode cX0_take 66 = .ok (.getfield 35, 3) := by decide +kernel
theorem dX0_take_69 : decode cX0_take 69 = .ok (.putfield 35, 3) := by decide +kernel
theorem dX0_take_72 : decode cX0_take 72 = .ok (.aload_n 0, 1) := by decide +kernel
theorem dX0_take_73 : decode cX0_take 73 = .ok (.aload_n 1, 1) := by decide +kernel
theorem dX0_take_74 : decode cX0_take 74 = .ok (.getfield 38, 3) := by decide +kernel
theorem dX0_take_77 : decode cX0_take 77 = .ok (.putfield 38, 3) := by decide +kernel
theorem dX0_take_80 : decode cX0_take 80 = .ok (.return_, 1) := by decide +kernel
theorem dX1_init_0 : decode cX1_init 0 = .ok (.aload_n 0, 1) := by decide +kernel
theorem dX1_init_1 : decode cX1_init 1 = .ok (.invokespecial 1, 3) := by decide +kernel
theorem dX1_init_4 : decode cX1_init 4 = .ok (.return_, 1) := by decide +kernel
theorem dX1_number_0 : decode cX1_number 0 = .ok (.iconst 5, 1) := by decide +kernel
theorem dX1_number_1 : decode cX1_number 1 = .ok (.ireturn, 1) := by decide +kernel
theorem dX1_own_0 : decode cX1_own 0 = .ok (.bipush 9, 2) := by decide +kernel
theorem dX1_own_2 : decode cX1_own 2 = .ok (.aload_n 1, 1) := by decide +kernel
theorem dX1_own_3 : decode cX1_own 3 = .ok (.getfield 7, 3) := by decide +kernel
theorem dX1_own_6 : decode cX1_own 6 = .ok (.isub, 1) := by decide +kernel
theorem dX1_own_7 : decode cX1_own 7 = .ok (.ireturn, 1) := by decide +kernel
theorem dX1_size_0 : decode cX1_size 0 = .ok (.aload_n 2, 1) := by decide +kernel
theorem dX1_size_1 : decode cX1_size 1 = .ok (.bipush 14, 2) := by decide +kernel
theorem dX1_size_3 : decode cX1_size 3 = .ok (.invokevirtual 13, 3) := by decide +kernel
theorem dX1_size_6 : decode cX1_size 6 = .ok (.iconst 2, 1) := by decide +kernel
theorem dX1_size_7 : decode cX1_size 7 = .ok (.aload_n 0, 1) := by decide +kernel
theorem dX1_size_8 : decode cX1_size 8 = .ok (.aload_n 1, 1) := by decide +kernel
theorem dX1_size_9 : decode cX1_size 9 = .ok (.aload_n 2, 1) := by decide +kernel
theorem dX1_size_10 : decode cX1_size 10 = .ok (.invokespecial 19, 3) := by decide +kernel
theorem dX1_size_13 : decode cX1_size 13 = .ok (.imul, 1) := by decide +kernel
theorem dX1_size_14 : decode cX1_size 14 = .ok (.ireturn, 1) := by decide +kernel
theorem dX2_init_0 : decode cX2_init 0 = .ok (.aload_n 0, 1) := by decide +kernel
theorem dX2_init_1 : decode cX2_init 1 = .ok (.invokespecial 3, 3) := by decide +kernel
theorem dX2_init_4 : decode cX2_init 4 = .ok (.return_, 1) := by decide +kernel
theorem dX2_number_0 : decode cX2_number 0 = .ok (.iconst 3, 1) := by decide +kernel
theorem dX2_number_1 : decode cX2_number 1 = .ok (.ireturn, 1) := by decide +kernel
theorem dX2_own_0 : decode cX2_own 0 = .ok (.iload_n 2, 1) := by decide +kernel
theorem dX2_own_1 : decode cX2_own 1 = .ok (.iconst (-1), 1) := by decide +kernel
theorem dX2_own_2 : decode cX2_own 2 = .ok (.if_icmp .ne 10, 3) := by decide +kernel
theorem dX2_own_5 : decode cX2_own 5 = .ok (.aload_n 1, 1) := by decide +kernel
theorem dX2_own_6 : decode cX2_own 6 = .ok (.getfield 9, 3) := by decide +kernel
theorem dX2_own_9 : decode cX2_own 9 = .ok (.goto 6, 3) := by decide +kernel
theorem dX2_own_12 : decode cX2_own 12 = .ok (.iload_n 2, 1) := by decide +kernel
theorem dX2_own_13 : decode cX2_own 13 = .ok (.iconst 1, 1) := by decide +kernel
theorem dX2_own_14 : decode cX2_own 14 = .ok (.iadd, 1) := by decide +kernel
theorem dX2_own_15 : decode cX2_own 15 = .ok (.ireturn, 1) := by decide +kernel
theorem dX2_mark_0 : decode cX2_mark 0 = .ok (.aload_n 2, 1) := by decide +kernel
theorem dX2_mark_1 : decode cX2_mark 1 = .ok (.bipush 22, 2) := by decide +kernel
theorem dX2_mark_3 : decode cX2_mark 3 = .ok (.invokevirtual 15, 3) := by decide +kernel
theorem dX2_mark_6 : decode cX2_mark 6 = .ok (.aload_n 0, 1) := by decide +kernel
theorem dX2_mark_7 : decode cX2_mark 7 = .ok (.aload_n 1, 1) := by decide +kernel
theorem dX2_mark_8 : decode cX2_mark 8 = .ok (.aload_n 2, 1) := by decide +kernel
theorem dX2_mark_9 : decode cX2_mark 9 = .ok (.invokespecial 21, 3) := by decide +kernel
theorem dX2_mark_12 : decode cX2_mark 12 = .ok (.sipush 1000, 3) := by decide +kernel
theorem dX2_mark_15 : decode cX2_mark 15 = .ok (.isub, 1) := by decide +kernel
theorem dX2_mark_16 : decode cX2_mark 16 = .ok (.ireturn, 1) := by decide +kernel
theorem dX3_init_0 : decode cX3_init 0 = .ok (.aload_n 0, 1) := by decide +kernel
theorem dX3_init_1 : decode cX3_init 1 = .ok (.invokespecial 1, 3) := by decide +kernel
theorem dX3_init_4 : decode cX3_init 4 = .ok (.return_, 1) := by decide +kernel
theorem dX3_size_0 : decode cX3_size 0 = .ok (.aload_n 2, 1) := by decide +kernel
theorem dX3_size_1 : decode cX3_size 1 = .ok (.bipush 10, 2) := by decide +kernel
theorem dX3_size_3 : decode cX3_size 3 = .ok (.invokevirtual 7, 3) := by decide +kernel
theorem dX3_size_6 : decode cX3_size 6 = .ok (.aload_n 1, 1) := by decide +kernel
theorem dX3_size_7 : decode cX3_size 7 = .ok (.getfield 13, 3) := by decide +kernel
theorem dX3_size_10 : decode cX3_size 10 = .ok (.ireturn, 1) := by decide +kernel
theorem dX3_mark_0 : decode cX3_mark 0 = .ok (.aload_n 2, 1) := by decide +kernel
theorem dX3_mark_1 : decode cX3_mark 1 = .ok (.bipush 20, 2) := by decide +kernel
theorem dX3_mark_3 : decode cX3_mark 3 = .ok (.invokevirtual 7, 3) := by decide +kernel
theorem dX3_mark_6 : decode cX3_mark 6 = .ok (.aload_n 1, 1) := by decide +kernel
theorem dX3_mark_7 : decode cX3_mark 7 = .ok (.getfield 19, 3) := by decide +kernel
theorem dX3_mark_10 : decode cX3_mark 10 = .ok (.ireturn, 1) := by decide +kernel
theorem dX4_init_0 : decode cX4_init 0 = .ok (.aload_n 0, 1) := by decide +kernel
theorem dX4_init_1 : decode cX4_init 1 = .ok (.invokespecial 1, 3) := by decide +kernel
theorem dX4_init_4 : decode cX4_init 4 = .ok (.return_, 1) := by decide +kernel
theorem dX4_number_0 : decode cX4_number 0 = .ok (.iconst 1, 1) := by decide +kernel
theorem dX4_number_1 : decode cX4_number 1 = .ok (.ireturn, 1) := by decide +kernel
theorem dX4_own_0 : decode cX4_own 0 = .ok (.aload_n 1, 1) := by decide +kernel
theorem dX4_own_1 : decode cX4_own 1 = .ok (.getfield 7, 3) := by decide +kernel
theorem dX4_own_4 : decode cX4_own 4 = .ok (.ireturn, 1) := by decide +kernel
theorem dX4_size_0 : decode cX4_size 0 = .ok (.aload_n 2, 1) := by decide +kernel
theorem dX4_size_1 : decode cX4_size 1 = .ok (.bipush 11, 2) := by decide +kernel
theorem dX4_size_3 : decode cX4_size 3 = .ok (.invokevirtual 13, 3) := by decide +kernel
theorem dX4_size_6 : decode cX4_size 6 = .ok (.aload_n 0, 1) := by decide +kernel
theorem dX4_size_7 : decode cX4_size 7 = .ok (.aload_n 1, 1) := by decide +kernel
theorem dX4_size_8 : decode cX4_size 8 = .ok (.aload_n 2, 1) := by decide +kernel
theorem dX4_size_9 : decode cX4_size 9 = .ok (.invokespecial 19, 3) := by decide +kernel
theorem dX4_size_12 : decode cX4_size 12 = .ok (.aload_n 0, 1) := by decide +kernel
theorem dX4_size_13 : decode cX4_size 13 = .ok (.aload_n 1, 1) := by decide +kernel
theorem dX4_size_14 : decode cX4_size 14 = .ok (.aload_n 2, 1) := by decide +kernel
theorem dX4_size_15 : decode cX4_size 15 = .ok (.invokevirtual 23, 3) := by decide +kernel
theorem dX4_size_18 : decode cX4_size 18 = .ok (.iadd, 1) := by decide +kernel
theorem dX4_size_19 : decode cX4_size 19 = .ok (.ireturn, 1) := by decide +kernel
theorem dX4_mark_0 : decode cX4_mark 0 = .ok (.aload_n 2, 1) := by decide +kernel
theorem dX4_mark_1 : decode cX4_mark 1 = .ok (.bipush 21, 2) := by decide +kernel
theorem dX4_mark_3 : decode cX4_mark 3 = .ok (.invokevirtual 13, 3) := by decide +kernel
theorem dX4_mark_6 : decode cX4_mark 6 = .ok (.aload_n 0, 1) := by decide +kernel
theorem dX4_mark_7 : decode cX4_mark 7 = .ok (.aload_n 1, 1) := by decide +kernel
theorem dX4_mark_8 : decode cX4_mark 8 = .ok (.aload_n 2, 1) := by decide +kernel
theorem dX4_mark_9 : decode cX4_mark 9 = .ok (.invokespecial 28, 3) := by decide +kernel
theorem dX4_mark_12 : decode cX4_mark 12 = .ok (.aload_n 1, 1) := by decide +kernel
theorem dX4_mark_13 : decode cX4_mark 13 = .ok (.getfield 29, 3) := by decide +kernel
theorem dX4_mark_16 : decode cX4_mark 16 = .ok (.iadd, 1) := by decide +kernel
theorem dX4_mark_17 : decode cX4_mark 17 = .ok (.ireturn, 1) := by decide +kernel
theorem dX5_init_0 : decode cX5_init 0 = .ok (.aload_n 0, 1) := by decide +kernel
theorem dX5_init_1 : decode cX5_init 1 = .ok (.invokespecial 3, 3) := by decide +kernel
theorem dX5_init_4 : decode cX5_init 4 = .ok (.aload_n 0, 1) := by decide +kernel
theorem dX5_init_5 : decode cX5_init 5 = .ok (.bipush 100, 2) := by decide +kernel
theorem dX5_init_7 : decode cX5_init 7 = .ok (.newarray .int, 2) := by decide +kernel
theorem dX5_init_9 : decode cX5_init 9 = .ok (.putfield 9, 3) := by decide +kernel
theorem dX5_init_12 : decode cX5_init 12 = .ok (.aload_n 0, 1) := by decide +kernel
theorem dX5_init_13 : decode cX5_init 13 = .ok (.iconst 0, 1) := by decide +kernel
theorem dX5_init_14 : decode cX5_init 14 = .ok (.putfield 15, 3) := by decide +kernel
theorem dX5_init_17 : decode cX5_init 17 = .ok (.aload_n 0, 1) := by decide +kernel
theorem dX5_init_18 : decode cX5_init 18 = .ok (.iconst 0, 1) := by decide +kernel
theorem dX5_init_19 : decode cX5_init 19 = .ok (.putfield 19, 3) := by decide +kernel
theorem dX5_init_22 : decode cX5_init 22 = .ok (.aload_n 0, 1) := by decide +kernel
theorem dX5_init_23 : decode cX5_init 23 = .ok (.iconst 0, 1) := by decide +kernel
theorem dX5_init_24 : decode cX5_init 24 = .ok (.putfield 22, 3) := by decide +kernel
theorem dX5_init_27 : decode cX5_init 27 = .ok (.aload_n 0, 1) := by decide +kernel
theorem dX5_init_28 : decode cX5_init 28 = .ok (.iconst 0, 1) := by decide +kernel
theorem dX5_init_29 : decode cX5_init 29 = .ok (.putfield 25, 3) := by decide +kernel
theorem dX5_init_32 : decode cX5_init 32 = .ok (.aload_n 0, 1) := by decide +kernel
theorem dX5_init_33 : decode cX5_init 33 = .ok (.sipush 257, 3) := by decide +kernel
theorem dX5_init_36 : decode cX5_init 36 = .ok (.putfield 28, 3) := by decide +kernel
theorem dX5_init_39 : decode cX5_init 39 = .ok (.aload_n 0, 1) := by decide +kernel
theorem dX5_init_40 : decode cX5_init 40 = .ok (.iconst 0, 1) := by decide +kernel
theorem dX5_init_41 : decode cX5_init 41 = .ok (.putfield 31, 3) := by decide +kernel
theorem dX5_init_44 : decode cX5_init 44 = .ok (.return_, 1) := by decide +kernel
theorem dX5_read_0 : decode cX5_read 0 = .ok (.aload_n 0, 1) := by decide +kernel
theorem dX5_read_1 : decode cX5_read 1 = .ok (.iconst 0, 1) := by decide +kernel
theorem dX5_read_2 : decode cX5_read 2 = .ok (.putfield 19, 3) := by decide +kernel
theorem dX5_read_5 : decode cX5_read 5 = .ok (.aload_n 0, 1) := by decide +kernel
theorem dX5_read_6 : decode cX5_read 6 = .ok (.iconst 0, 1) := by decide +kernel
theorem dX5_read_7 : decode cX5_read 7 = .ok (.putfield 25, 3) := by decide +kernel
theorem dX5_read_10 : decode cX5_read 10 = .ok (.aload_n 0, 1) := by decide +kernel
theorem dX5_read_11 : decode cX5_read 11 = .ok (.invokevirtual 34, 3) := by decide +kernel
theorem dX5_read_14 : decode cX5_read 14 = .ok (.aload_n 1, 1) := by decide +kernel
theorem dX5_read_15 : decode cX5_read 15 = .ok (.invokevirtual 37, 3) := by decide +kernel
theorem dX5_read_18 : decode cX5_read 18 = .ok (.aload_n 0, 1) := by decide +kernel
theorem dX5_read_19 : decode cX5_read 19 = .ok (.aload_n 1, 1) := by decide +kernel
theorem dX5_read_20 : decode cX5_read 20 = .ok (.invokevirtual 42, 3) := by decide +kernel
theorem dX5_read_23 : decode cX5_read 23 = .ok (.aload_n 0, 1) := by decide +kernel
theorem dX5_read_24 : decode cX5_read 24 = .ok (.aload_n 1, 1) := by decide +kernel
theorem dX5_read_25 : decode cX5_read 25 = .ok (.aload_n 2, 1) := by decide +kernel
theorem dX5_read_26 : decode cX5_read 26 = .ok (.invokevirtual 46, 3) := by decide +kernel
theorem dX5_read_29 : decode cX5_read 29 = .ok (.aload_n 0, 1) := by decide +kernel
theorem dX5_read_30 : decode cX5_read 30 = .ok (.iconst 0, 1) := by decide +kernel
theorem dX5_read_31 : decode cX5_read 31 = .ok (.putfield 15, 3) := by decide +kernel
theorem dX5_read_34 : decode cX5_read 34 = .ok (.return_, 1) := by decide +kernel
theorem dX5_readLaw_0 : decode cX5_readLaw 0 = .ok (.aload_n 0, 1) := by decide +kernel
theorem dX5_readLaw_1 : decode cX5_readLaw 1 = .ok (.bipush 107, 2) := by decide +kernel
theorem dX5_readLaw_3 : decode cX5_readLaw 3 = .ok (.invokevirtual 50, 3) := by decide +kernel
theorem dX5_readLaw_6 : decode cX5_readLaw 6 = .ok (.aload_n 1, 1) := by decide +kernel
theorem dX5_readLaw_7 : decode cX5_readLaw 7 = .ok (.aload_n 0, 1) := by decide +kernel
theorem dX5_readLaw_8 : decode cX5_readLaw 8 = .ok (.iconst 1, 1) := by decide +kernel
theorem dX5_readLaw_9 : decode cX5_readLaw 9 = .ok (.bipush 99, 2) := by decide +kernel
theorem dX5_readLaw_11 : decode cX5_readLaw 11 = .ok (.invokevirtual 54, 3) := by decide +kernel
theorem dX5_readLaw_14 : decode cX5_readLaw 14 = .ok (.putfield 58, 3) := by decide +kernel
theorem dX5_readLaw_17 : decode cX5_readLaw 17 = .ok (.aload_n 0, 1) := by decide +kernel
theorem dX5_readLaw_18 : decode cX5_readLaw 18 = .ok (.bipush 44, 2) := by decide +kernel
theorem dX5_readLaw_20 : decode cX5_readLaw 20 = .ok (.invokevirtual 50, 3) := by decide +kernel
theorem dX5_readLaw_23 : decode cX5_readLaw 23 = .ok (.aload_n 1, 1) := by decide +kernel
theorem dX5_readLaw_24 : decode cX5_readLaw 24 = .ok (.aload_n 0, 1) := by decide +kernel
theorem dX5_readLaw_25 : decode cX5_readLaw 25 = .ok (.iconst 0, 1) := by decide +kernel
theorem dX5_readLaw_26 : decode cX5_readLaw 26 = .ok (.bipush 99, 2) := by decide +kernel
theorem dX5_readLaw_28 : decode cX5_readLaw 28 = .ok (.invokevirtual 54, 3) := by decide +kernel
theorem dX5_readLaw_31 : decode cX5_readLaw 31 = .ok (.putfield 61, 3) := by decide +kernel
theorem dX5_readLaw_34 : decode cX5_readLaw 34 = .ok (.aload_n 0, 1) := by decide +kernel
theorem dX5_readLaw_35 : decode cX5_readLaw 35 = .ok (.bipush 44, 2) := by decide +kernel
theorem dX5_readLaw_37 : decode cX5_readLaw 37 = .ok (.invokevirtual 50, 3) := by decide +kernel
theorem dX5_readLaw_40 : decode cX5_readLaw 40 = .ok (.aload_n 1, 1) := by decide +kernel
theorem dX5_readLaw_41 : decode cX5_readLaw 41 = .ok (.aload_n 0, 1) := by decide +kernel
theorem dX5_readLaw_42 : decode cX5_readLaw 42 = .ok (.iconst 0, 1) := by decide +kernel
theorem dX5_readLaw_43 : decode cX5_readLaw 43 = .ok (.bipush 9, 2) := by decide +kernel
theorem dX5_readLaw_45 : decode cX5_readLaw 45 = .ok (.invokevirtual 54, 3) := by decide +kernel
theorem dX5_readLaw_48 : decode cX5_readLaw 48 = .ok (.putfield 64, 3) := by decide +kernel
theorem dX5_readLaw_51 : decode cX5_readLaw 51 = .ok (.aload_n 0, 1) := by decide +kernel
theorem dX5_readLaw_52 : decode cX5_readLaw 52 = .ok (.bipush 44, 2) := by decide +kernel
theorem dX5_readLaw_54 : decode cX5_readLaw 54 = .ok (.invokevirtual 50, 3) := by decide +kernel
theorem dX5_readLaw_57 : decode cX5_readLaw 57 = .ok (.aload_n 1, 1) := by decide +kernel
theorem dX5_readLaw_58 : decode cX5_readLaw 58 = .ok (.aload_n 0, 1) := by decide +kernel
theorem dX5_readLaw_59 : decode cX5_readLaw 59 = .ok (.iconst 0, 1) := by decide +kernel
theorem dX5_readLaw_60 : decode cX5_readLaw 60 = .ok (.iconst 3, 1) := by decide +kernel
theorem dX5_readLaw_61 : decode cX5_readLaw 61 = .ok (.invokevirtual 54, 3) := by decide +kernel
theorem dX5_readLaw_64 : decode cX5_readLaw 64 = .ok (.putfield 67, 3) := by decide +kernel
theorem dX5_readLaw_67 : decode cX5_readLaw 67 = .ok (.aload_n 0, 1) := by decide +kernel
theorem dX5_readLaw_68 : decode cX5_readLaw 68 = .ok (.bipush 59, 2) := by decide +kernel
theorem dX5_readLaw_70 : decode cX5_readLaw 70 = .ok (.invokevirtual 50, 3) := by decide +kernel
theorem dX5_readLaw_73 : decode cX5_readLaw 73 = .ok (.return_, 1) := by decide +kernel
theorem dX5_readHeirs_0 : decode cX5_readHeirs 0 = .ok (.iconst 0, 1) := by decide +kernel
theorem dX5_readHeirs_1 : decode cX5_readHeirs 1 = .ok (.istore_n 3, 1) := by decide +kernel
theorem dX5_readHeirs_2 : decode cX5_readHeirs 2 = .ok (.iload_n 3, 1) := by decide +kernel
theorem dX5_readHeirs_3 : decode cX5_readHeirs 3 = .ok (.iconst 4, 1) := by decide +kernel
theorem dX5_readHeirs_4 : decode cX5_readHeirs 4 = .ok (.if_icmp .gt 131, 3) := by decide +kernel
theorem dX5_readHeirs_7 : decode cX5_readHeirs 7 = .ok (.aload_n 0, 1) := by decide +kernel
theorem dX5_readHeirs_8 : decode cX5_readHeirs 8 = .ok (.getfield 19, 3) := by decide +kernel
theorem dX5_readHeirs_11 : decode cX5_readHeirs 11 = .ok (.ifCond .ne 124, 3) := by decide +kernel
theorem dX5_readHeirs_14 : decode cX5_readHeirs 14 = .ok (.aload_n 0, 1) := by decide +kernel
theorem dX5_readHeirs_15 : decode cX5_readHeirs 15 = .ok (.getfield 28, 3) := by decide +kernel
theorem dX5_readHeirs_18 : decode cX5_readHeirs 18 = .ok (.sipush 257, 3) := by decide +kernel
theorem dX5_readHeirs_21 : decode cX5_readHeirs 21 = .ok (.if_icmp .ne 9, 3) := by decide +kernel
theorem dX5_readHeirs_24 : decode cX5_readHeirs 24 = .ok (.iload_n 3, 1) := by decide +kernel
theorem dX5_readHeirs_25 : decode cX5_readHeirs 25 = .ok (.iconst 2, 1) := by decide +kernel
theorem dX5_readHeirs_26 : decode cX5_readHeirs 26 = .ok (.if_icmp .lt 4, 3) := by decide +kernel
theorem dX5_readHeirs_29 : decode cX5_readHeirs 29 = .ok (.return_, 1) := by decide +kernel
theorem dX5_readHeirs_30 : decode cX5_readHeirs 30 = .ok (.aload_n 0, 1) := by decide +kernel
theorem dX5_readHeirs_31 : decode cX5_readHeirs 31 = .ok (.getfield 28, 3) := by decide +kernel
theorem dX5_readHeirs_34 : decode cX5_readHeirs 34 = .ok (.invokestatic 70, 3) := by decide +kernel
theorem dX5_readHeirs_37 : decode cX5_readHeirs 37 = .ok (.istore 4, 2) := by decide +kernel
theorem dX5_readHeirs_39 : decode cX5_readHeirs 39 = .ok (.iload 4, 2) := by decide +kernel
theorem dX5_readHeirs_41 : decode cX5_readHeirs 41 = .ok (.ifCond .ne 11, 3) := by decide +kernel
theorem dX5_readHeirs_44 : decode cX5_readHeirs 44 = .ok (.aload_n 0, 1) := by decide +kernel
theorem dX5_readHeirs_45 : decode cX5_readHeirs 45 = .ok (.iconst 1, 1) := by decide +kernel
theorem dX5_readHeirs_46 : decode cX5_readHeirs 46 = .ok (.putfield 19, 3) := by decide +kernel
theorem dX5_readHeirs_49 : decode cX5_readHeirs 49 = .ok (.goto 80, 3) := by decide +kernel
theorem dX5_readHeirs_52 : decode cX5_readHeirs 52 = .ok (.iload_n 3, 1) := by decide +kernel
theorem dX5_readHeirs_53 : decode cX5_readHeirs 53 = .ok (.iconst 4, 1) := by decide +kernel
theorem dX5_readHeirs_54 : decode cX5_readHeirs 54 = .ok (.if_icmp .ne 11, 3) := by decide +kernel
theorem dX5_readHeirs_57 : decode cX5_readHeirs 57 = .ok (.aload_n 0, 1) := by decide +kernel
theorem dX5_readHeirs_58 : decode cX5_readHeirs 58 = .ok (.iconst 3, 1) := by decide +kernel
theorem dX5_readHeirs_59 : decode cX5_readHeirs 59 = .ok (.putfield 19, 3) := by decide +kernel
theorem dX5_readHeirs_62 : decode cX5_readHeirs 62 = .ok (.goto 67, 3) := by decide +kernel
theorem dX5_readHeirs_65 : decode cX5_readHeirs 65 = .ok (.aload_n 1, 1) := by decide +kernel
theorem dX5_readHeirs_66 : decode cX5_readHeirs 66 = .ok (.getfield 74, 3) := by decide +kernel
theorem dX5_readHeirs_69 : decode cX5_readHeirs 69 = .ok (.iload_n 3, 1) := by decide +kernel
theorem dX5_readHeirs_70 : decode cX5_readHeirs 70 = .ok (.aaload, 1) := by decide +kernel
theorem dX5_readHeirs_71 : decode cX5_readHeirs 71 = .ok (.astore 5, 2) := by decide +kernel
theorem dX5_readHeirs_73 : decode cX5_readHeirs 73 = .ok (.aload 5, 2) := by decide +kernel
theorem dX5_readHeirs_75 : decode cX5_readHeirs 75 = .ok (.aload_n 2, 1) := by decide +kernel
theorem dX5_readHeirs_76 : decode cX5_readHeirs 76 = .ok (.iload 4, 2) := by decide +kernel
theorem dX5_readHeirs_78 : decode cX5_readHeirs 78 = .ok (.aaload, 1) := by decide +kernel
theorem dX5_readHeirs_79 : decode cX5_readHeirs 79 = .ok (.putfield 78, 3) := by decide +kernel
theorem dX5_readHeirs_82 : decode cX5_readHeirs 82 = .ok (.aload_n 0, 1) := by decide +kernel
theorem dX5_readHeirs_83 : decode cX5_readHeirs 83 = .ok (.invokevirtual 34, 3) := by decide +kernel
theorem dX5_readHeirs_86 : decode cX5_readHeirs 86 = .ok (.aload 5, 2) := by decide +kernel
theorem dX5_readHeirs_88 : decode cX5_readHeirs 88 = .ok (.aload_n 0, 1) := by decide +kernel
theorem dX5_readHeirs_89 : decode cX5_readHeirs 89 = .ok (.iconst 0, 1) := by decide +kernel
theorem dX5_readHeirs_90 : decode cX5_readHeirs 90 = .ok (.bipush 9, 2) := by decide +kernel
theorem dX5_readHeirs_92 : decode cX5_readHeirs 92 = .ok (.invokevirtual 54, 3) := by decide +kernel
theorem dX5_readHeirs_95 : decode cX5_readHeirs 95 = .ok (.putfield 84, 3) := by decide +kernel
theorem dX5_readHeirs_98 : decode cX5_readHeirs 98 = .ok (.aload_n 0, 1) := by decide +kernel
theorem dX5_readHeirs_99 : decode cX5_readHeirs 99 = .ok (.bipush 44, 2) := by decide +kernel
theorem dX5_readHeirs_101 : decode cX5_readHeirs 101 = .ok (.invokevirtual 50, 3) := by decide +kernel
theorem dX5_readHeirs_104 : decode cX5_readHeirs 104 = .ok (.aload 5, 2) := by decide +kernel
theorem dX5_readHeirs_106 : decode cX5_readHeirs 106 = .ok (.aload_n 0, 1) := by decide +kernel
theorem dX5_readHeirs_107 : decode cX5_readHeirs 107 = .ok (.iconst 0, 1) := by decide +kernel
theorem dX5_readHeirs_108 : decode cX5_readHeirs 108 = .ok (.bipush 9, 2) := by decide +kernel
theorem dX5_readHeirs_110 : decode cX5_readHeirs 110 = .ok (.invokevirtual 54, 3) := by decide +kernel
theorem dX5_readHeirs_113 : decode cX5_readHeirs 113 = .ok (.putfield 87, 3) := by decide +kernel
theorem dX5_readHeirs_116 : decode cX5_readHeirs 116 = .ok (.aload_n 0, 1) := by decide +kernel
theorem dX5_readHeirs_117 : decode cX5_readHeirs 117 = .ok (.bipush 59, 2) := by decide +kernel
theorem dX5_readHeirs_119 : decode cX5_readHeirs 119 = .ok (.invokevirtual 50, 3) := by decide +kernel
theorem dX5_readHeirs_122 : decode cX5_readHeirs 122 = .ok (.aload_n 1, 1) := by decide +kernel
theorem dX5_readHeirs_123 : decode cX5_readHeirs 123 = .ok (.iload_n 3, 1) := by decide +kernel
theorem dX5_readHeirs_124 : decode cX5_readHeirs 124 = .ok (.iconst 1, 1) := by decide +kernel
theorem dX5_readHeirs_125 : decode cX5_readHeirs 125 = .ok (.iadd, 1) := by decide +kernel
theorem dX5_readHeirs_126 : decode cX5_readHeirs 126 = .ok (.putfield 90, 3) := by decide +kernel
theorem dX5_readHeirs_129 : decode cX5_readHeirs 129 = .ok (.iinc 3 1, 3) := by decide +kernel
theorem dX5_readHeirs_132 : decode cX5_readHeirs 132 = .ok (.goto (-130), 3) := by decide +kernel
theorem dX5_readHeirs_135 : decode cX5_readHeirs 135 = .ok (.return_, 1) := by decide +kernel
theorem dX5_kindBySort_0 : decode cX5_kindBySort 0 = .ok (.iload_n 0, 1) := by decide +kernel
theorem dX5_kindBySort_1 : decode cX5_kindBySort 1 = .ok (.tableswitch 69 105 115 #[67, 63, 69, 69, 69, 69, 69, 59, 65, 69, 61], 59) := by decide +kernel
theorem dX5_kindBySort_60 : decode cX5_kindBySort 60 = .ok (.iconst 1, 1) := by decide +kernel
theorem dX5_kindBySort_61 : decode cX5_kindBySort 61 = .ok (.ireturn, 1) := by decide +kernel
theorem dX5_kindBySort_62 : decode cX5_kindBySort 62 = .ok (.iconst 2, 1) := by decide +kernel
theorem dX5_kindBySort_63 : decode cX5_kindBySort 63 = .ok (.ireturn, 1) := by decide +kernel
theorem dX5_kindBySort_64 : decode cX5_kindBySort 64 = .ok (.iconst 3, 1) := by decide +kernel
theorem dX5_kindBySort_65 : decode cX5_kindBySort 65 = .ok (.ireturn, 1) := by decide +kernel
theorem dX5_kindBySort_66 : decode cX5_kindBySort 66 = .ok (.iconst 4, 1) := by decide +kernel
theorem dX5_kindBySort_67 : decode cX5_kindBySort 67 = .ok (.ireturn, 1) := by decide +kernel
theorem dX5_kindBySort_68 : decode cX5_kindBySort 68 = .ok (.iconst 5, 1) := by decide +kernel
theorem dX5_kindBySort_69 : decode cX5_kindBySort 69 = .ok (.ireturn, 1) := by decide +kernel
theorem dX5_kindBySort_70 : decode cX5_kindBySort 70 = .ok (.iconst 0, 1) := by decide +kernel
theorem dX5_kindBySort_71 : decode cX5_kindBySort 71 = .ok (.ireturn, 1) := by decide +kernel
theorem dX5_sign_0 : decode cX5_sign 0 = .ok (.aload_n 0, 1) := by decide +kernel
theorem dX5_sign_1 : decode cX5_sign 1 = .ok (.getfield 19, 3) := by decide +kernel
theorem dX5_sign_4 : decode cX5_sign 4 = .ok (.ifCond .ne 16, 3) := by decide +kernel
theorem dX5_sign_7 : decode cX5_sign 7 = .ok (.aload_n 0, 1) := by decide +kernel
theorem dX5_sign_8 : decode cX5_sign 8 = .ok (.getfield 28, 3) := by decide +kernel
theorem dX5_sign_11 : decode cX5_sign 11 = .ok (.iload_n 1, 1) := by decide +kernel
theorem dX5_sign_12 : decode cX5_sign 12 = .ok (.if_icmp .eq 8, 3) := by decide +kernel
theorem dX5_sign_15 : decode cX5_sign 15 = .ok (.aload_n 0, 1) := by decide +kernel
theorem dX5_sign_16 : decode cX5_sign 16 = .ok (.iconst 1, 1) := by decide +kernel
theorem dX5_sign_17 : decode cX5_sign 17 = .ok (.putfield 19, 3) := by decide +kernel
theorem dX5_sign_20 : decode cX5_sign 20 = .ok (.aload_n 0, 1) := by decide +kernel
theorem dX5_sign_21 : decode cX5_sign 21 = .ok (.invokevirtual 34, 3) := by decide +kernel
theorem dX5_sign_24 : decode cX5_sign 24 = .ok (.return_, 1) := by decide +kernel
theorem dX5_number_0 : decode cX5_number 0 = .ok (.aload_n 0, 1) := by decide +kernel
theorem dX5_number_1 : decode cX5_number 1 = .ok (.getfield 31, 3) := by decide +kernel
theorem dX5_number_4 : decode cX5_number 4 = .ok (.istore_n 3, 1) := by decide +kernel
theorem dX5_number_5 : decode cX5_number 5 = .ok (.aload_n 0, 1) := by decide +kernel
theorem dX5_number_6 : decode cX5_number 6 = .ok (.getfield 19, 3) := by decide +kernel
theorem dX5_number_9 : decode cX5_number 9 = .ok (.ifCond .ne 21, 3) := by decide +kernel
theorem dX5_number_12 : decode cX5_number 12 = .ok (.aload_n 0, 1) := by decide +kernel
theorem dX5_number_13 : decode cX5_number 13 = .ok (.getfield 28, 3) := by decide +kernel
theorem dX5_number_16 : decode cX5_number 16 = .ok (.sipush 256, 3) := by decide +kernel
theorem dX5_number_19 : decode cX5_number 19 = .ok (.if_icmp .eq 11, 3) := by decide +kernel
theorem dX5_number_22 : decode cX5_number 22 = .ok (.aload_n 0, 1) := by decide +kernel
theorem dX5_number_23 : decode cX5_number 23 = .ok (.iconst 1, 1) := by decide +kernel
theorem dX5_number_24 : decode cX5_number 24 = .ok (.putfield 19, 3) := by decide +kernel
theorem dX5_number_27 : decode cX5_number 27 = .ok (.goto 24, 3) := by decide +kernel
theorem dX5_number_30 : decode cX5_number 30 = .ok (.aload_n 0, 1) := by decide +kernel
theorem dX5_number_31 : decode cX5_number 31 = .ok (.getfield 19, 3) := by decide +kernel
theorem dX5_number_34 : decode cX5_number 34 = .ok (.ifCond .ne 17, 3) := by decide +kernel
theorem dX5_number_37 : decode cX5_number 37 = .ok (.iload_n 3, 1) := by decide +kernel
theorem dX5_number_38 : decode cX5_number 38 = .ok (.iload_n 1, 1) := by decide +kernel
theorem dX5_number_39 : decode cX5_number 39 = .ok (.iload_n 2, 1) := by decide +kernel
theorem dX5_number_40 : decode cX5_number 40 = .ok (.invokestatic 93, 3) := by decide +kernel
theorem dX5_number_43 : decode cX5_number 43 = .ok (.ifCond .ne 8, 3) := by decide +kernel
theorem dX5_number_46 : decode cX5_number 46 = .ok (.aload_n 0, 1) := by decide +kernel
theorem dX5_number_47 : decode cX5_number 47 = .ok (.iconst 2, 1) := by decide +kernel
theorem dX5_number_48 : decode cX5_number 48 = .ok (.putfield 19, 3) := by decide +kernel
theorem dX5_number_51 : decode cX5_number 51 = .ok (.aload_n 0, 1) := by decide +kernel
theorem dX5_number_52 : decode cX5_number 52 = .ok (.invokevirtual 34, 3) := by decide +kernel
theorem dX5_number_55 : decode cX5_number 55 = .ok (.iload_n 3, 1) := by decide +kernel
theorem dX5_number_56 : decode cX5_number 56 = .ok (.ireturn, 1) := by decide +kernel
theorem dX5_nextToken_0 : decode cX5_nextToken 0 = .ok (.aload_n 0, 1) := by decide +kernel
theorem dX5_nextToken_1 : decode cX5_nextToken 1 = .ok (.getfield 19, 3) := by decide +kernel
theorem dX5_nextToken_4 : decode cX5_nextToken 4 = .ok (.ifCond .eq 4, 3) := by decide +kernel
theorem dX5_nextToken_7 : decode cX5_nextToken 7 = .ok (.return_, 1) := by decide +kernel
theorem dX5_nextToken_8 : decode cX5_nextToken 8 = .ok (.aload_n 0, 1) := by decide +kernel
theorem dX5_nextToken_9 : decode cX5_nextToken 9 = .ok (.aload_n 0, 1) := by decide +kernel
theorem dX5_nextToken_10 : decode cX5_nextToken 10 = .ok (.getfield 25, 3) := by decide +kernel
theorem dX5_nextToken_13 : decode cX5_nextToken 13 = .ok (.putfield 22, 3) := by decide +kernel
theorem dX5_nextToken_16 : decode cX5_nextToken 16 = .ok (.aload_n 0, 1) := by decide +kernel
theorem dX5_nextToken_17 : decode cX5_nextToken 17 = .ok (.iconst 0, 1) := by decide +kernel
theorem dX5_nextToken_18 : decode cX5_nextToken 18 = .ok (.putfield 31, 3) := by decide +kernel
theorem dX5_nextToken_21 : decode cX5_nextToken 21 = .ok (.aload_n 0, 1) := by decide +kernel
theorem dX5_nextToken_22 : decode cX5_nextToken 22 = .ok (.getfield 22, 3) := by decide +kernel
theorem dX5_nextToken_25 : decode cX5_nextToken 25 = .ok (.aload_n 0, 1) := by decide +kernel
theorem dX5_nextToken_26 : decode cX5_nextToken 26 = .ok (.getfield 15, 3) := by decide +kernel
theorem dX5_nextToken_29 : decode cX5_nextToken 29 = .ok (.if_icmp .lt 11, 3) := by decide +kernel
theorem dX5_nextToken_32 : decode cX5_nextToken 32 = .ok (.aload_n 0, 1) := by decide +kernel
theorem dX5_nextToken_33 : decode cX5_nextToken 33 = .ok (.sipush 257, 3) := by decide +kernel
theorem dX5_nextToken_36 : decode cX5_nextToken 36 = .ok (.putfield 28, 3) := by decide +kernel
theorem dX5_nextToken_39 : decode cX5_nextToken 39 = .ok (.return_, 1) := by decide +kernel
theorem dX5_nextToken_40 : decode cX5_nextToken 40 = .ok (.aload_n 0, 1) := by decide +kernel
theorem dX5_nextToken_41 : decode cX5_nextToken 41 = .ok (.getfield 9, 3) := by decide +kernel
theorem dX5_nextToken_44 : decode cX5_nextToken 44 = .ok (.aload_n 0, 1) := by decide +kernel
theorem dX5_nextToken_45 : decode cX5_nextToken 45 = .ok (.getfield 22, 3) := by decide +kernel
theorem dX5_nextToken_48 : decode cX5_nextToken 48 = .ok (.iaload, 1) := by decide +kernel
theorem dX5_nextToken_49 : decode cX5_nextToken 49 = .ok (.istore_n 1, 1) := by decide +kernel
theorem dX5_nextToken_50 : decode cX5_nextToken 50 = .ok (.aload_n 0, 1) := by decide +kernel
theorem dX5_nextToken_51 : decode cX5_nextToken 51 = .ok (.aload_n 0, 1) := by decide +kernel
theorem dX5_nextToken_52 : decode cX5_nextToken 52 = .ok (.getfield 22, 3) := by decide +kernel
theorem dX5_nextToken_55 : decode cX5_nextToken 55 = .ok (.iconst 1, 1) := by decide +kernel
theorem dX5_nextToken_56 : decode cX5_nextToken 56 = .ok (.iadd, 1) := by decide +kernel
theorem dX5_nextToken_57 : decode cX5_nextToken 57 = .ok (.putfield 25, 3) := by decide +kernel
theorem dX5_nextToken_60 : decode cX5_nextToken 60 = .ok (.iload_n 1, 1) := by decide +kernel
theorem dX5_nextToken_61 : decode cX5_nextToken 61 = .ok (.invokestatic 97, 3) := by decide +kernel
theorem dX5_nextToken_64 : decode cX5_nextToken 64 = .ok (.ifCond .eq 10, 3) := by decide +kernel
theorem dX5_nextToken_67 : decode cX5_nextToken 67 = .ok (.aload_n 0, 1) := by decide +kernel
theorem dX5_nextToken_68 : decode cX5_nextToken 68 = .ok (.invokevirtual 101, 3) := by decide +kernel
theorem dX5_nextToken_71 : decode cX5_nextToken 71 = .ok (.goto 38, 3) := by decide +kernel
theorem dX5_nextToken_74 : decode cX5_nextToken 74 = .ok (.aload_n 0, 1) := by decide +kernel
theorem dX5_nextToken_75 : decode cX5_nextToken 75 = .ok (.iload_n 1, 1) := by decide +kernel
theorem dX5_nextToken_76 : decode cX5_nextToken 76 = .ok (.bipush 97, 2) := by decide +kernel
theorem dX5_nextToken_78 : decode cX5_nextToken 78 = .ok (.if_icmp .lt 9, 3) := by decide +kernel
theorem dX5_nextToken_81 : decode cX5_nextToken 81 = .ok (.iload_n 1, 1) := by decide +kernel
theorem dX5_nextToken_82 : decode cX5_nextToken 82 = .ok (.bipush 122, 2) := by decide +kernel
theorem dX5_nextToken_84 : decode cX5_nextToken 84 = .ok (.if_icmp .le 15, 3) := by decide +kernel
theorem dX5_nextToken_87 : decode cX5_nextToken 87 = .ok (.iload_n 1, 1) := by decide +kernel
theorem dX5_nextToken_88 : decode cX5_nextToken 88 = .ok (.bipush 44, 2) := by decide +kernel
theorem dX5_nextToken_90 : decode cX5_nextToken 90 = .ok (.if_icmp .eq 9, 3) := by decide +kernel
theorem dX5_nextToken_93 : decode cX5_nextToken 93 = .ok (.iload_n 1, 1) := by decide +kernel
theorem dX5_nextToken_94 : decode cX5_nextToken 94 = .ok (.bipush 59, 2) := by decide +kernel
theorem dX5_nextToken_96 : decode cX5_nextToken 96 = .ok (.if_icmp .ne 7, 3) := by decide +kernel
theorem dX5_nextToken_99 : decode cX5_nextToken 99 = .ok (.iload_n 1, 1) := by decide +kernel
theorem dX5_nextToken_100 : decode cX5_nextToken 100 = .ok (.goto 6, 3) := by decide +kernel
theorem dX5_nextToken_103 : decode cX5_nextToken 103 = .ok (.sipush 258, 3) := by decide +kernel
theorem dX5_nextToken_106 : decode cX5_nextToken 106 = .ok (.putfield 28, 3) := by decide +kernel
theorem dX5_nextToken_109 : decode cX5_nextToken 109 = .ok (.return_, 1) := by decide +kernel
theorem dX5_readFigures_0 : decode cX5_readFigures 0 = .ok (.aload_n 0, 1) := by decide +kernel
theorem dX5_readFigures_1 : decode cX5_readFigures 1 = .ok (.aload_n 0, 1) := by decide +kernel
theorem dX5_readFigures_2 : decode cX5_readFigures 2 = .ok (.getfield 22, 3) := by decide +kernel
theorem dX5_readFigures_5 : decode cX5_readFigures 5 = .ok (.putfield 25, 3) := by decide +kernel
theorem dX5_readFigures_8 : decode cX5_readFigures 8 = .ok (.aload_n 0, 1) := by decide +kernel
theorem dX5_readFigures_9 : decode cX5_readFigures 9 = .ok (.getfield 25, 3) := by decide +kernel
theorem dX5_readFigures_12 : decode cX5_readFigures 12 = .ok (.aload_n 0, 1) := by decide +kernel
theorem dX5_readFigures_13 : decode cX5_readFigures 13 = .ok (.getfield 15, 3) := by decide +kernel
theorem dX5_readFigures_16 : decode cX5_readFigures 16 = .ok (.if_icmp .ge 55, 3) := by decide +kernel
theorem dX5_readFigures_19 : decode cX5_readFigures 19 = .ok (.aload_n 0, 1) := by decide +kernel
theorem dX5_readFigures_20 : decode cX5_readFigures 20 = .ok (.getfield 9, 3) := by decide +kernel
theorem dX5_readFigures_23 : decode cX5_readFigures 23 = .ok (.aload_n 0, 1) := by decide +kernel
theorem dX5_readFigures_24 : decode cX5_readFigures 24 = .ok (.getfield 25, 3) := by decide +kernel
theorem dX5_readFigures_27 : decode cX5_readFigures 27 = .ok (.iaload, 1) := by decide +kernel
theorem dX5_readFigures_28 : decode cX5_readFigures 28 = .ok (.invokestatic 97, 3) := by decide +kernel
theorem dX5_readFigures_31 : decode cX5_readFigures 31 = .ok (.ifCond .eq 40, 3) := by decide +kernel
theorem dX5_readFigures_34 : decode cX5_readFigures 34 = .ok (.aload_n 0, 1) := by decide +kernel
theorem dX5_readFigures_35 : decode cX5_readFigures 35 = .ok (.bipush 10, 2) := by decide +kernel
theorem dX5_readFigures_37 : decode cX5_readFigures 37 = .ok (.aload_n 0, 1) := by decide +kernel
theorem dX5_readFigures_38 : decode cX5_readFigures 38 = .ok (.getfield 31, 3) := by decide +kernel
theorem dX5_readFigures_41 : decode cX5_readFigures 41 = .ok (.imul, 1) := by decide +kernel
theorem dX5_readFigures_42 : decode cX5_readFigures 42 = .ok (.aload_n 0, 1) := by decide +kernel
theorem dX5_readFigures_43 : decode cX5_readFigures 43 = .ok (.getfield 9, 3) := by decide +kernel
theorem dX5_readFigures_46 : decode cX5_readFigures 46 = .ok (.aload_n 0, 1) := by decide +kernel
theorem dX5_readFigures_47 : decode cX5_readFigures 47 = .ok (.getfield 25, 3) := by decide +kernel
theorem dX5_readFigures_50 : decode cX5_readFigures 50 = .ok (.iaload, 1) := by decide +kernel
theorem dX5_readFigures_51 : decode cX5_readFigures 51 = .ok (.iadd, 1) := by decide +kernel
theorem dX5_readFigures_52 : decode cX5_readFigures 52 = .ok (.bipush 48, 2) := by decide +kernel
theorem dX5_readFigures_54 : decode cX5_readFigures 54 = .ok (.isub, 1) := by decide +kernel
theorem dX5_readFigures_55 : decode cX5_readFigures 55 = .ok (.putfield 31, 3) := by decide +kernel
theorem dX5_readFigures_58 : decode cX5_readFigures 58 = .ok (.aload_n 0, 1) := by decide +kernel
theorem dX5_readFigures_59 : decode cX5_readFigures 59 = .ok (.dup, 1) := by decide +kernel
theorem dX5_readFigures_60 : decode cX5_readFigures 60 = .ok (.getfield 25, 3) := by decide +kernel
theorem dX5_readFigures_63 : decode cX5_readFigures 63 = .ok (.iconst 1, 1) := by decide +kernel
theorem dX5_readFigures_64 : decode cX5_readFigures 64 = .ok (.iadd, 1) := by decide +kernel
theorem dX5_readFigures_65 : decode cX5_readFigures 65 = .ok (.putfield 25, 3) := by decide +kernel
theorem dX5_readFigures_68 : decode cX5_readFigures 68 = .ok (.goto (-60), 3) := by decide +kernel
theorem dX5_readFigures_71 : decode cX5_readFigures 71 = .ok (.aload_n 0, 1) := by decide +kernel
theorem dX5_readFigures_72 : decode cX5_readFigures 72 = .ok (.aload_n 0, 1) := by decide +kernel
theorem dX5_readFigures_73 : decode cX5_readFigures 73 = .ok (.getfield 25, 3) := by decide +kernel
theorem dX5_readFigures_76 : decode cX5_readFigures 76 = .ok (.aload_n 0, 1) := by decide +kernel
theorem dX5_readFigures_77 : decode cX5_readFigures 77 = .ok (.getfield 22, 3) := by decide +kernel
theorem dX5_readFigures_80 : decode cX5_readFigures 80 = .ok (.isub, 1) := by decide +kernel
theorem dX5_readFigures_81 : decode cX5_readFigures 81 = .ok (.iconst 2, 1) := by decide +kernel
theorem dX5_readFigures_82 : decode cX5_readFigures 82 = .ok (.if_icmp .gt 9, 3) := by decide +kernel
theorem dX5_readFigures_85 : decode cX5_readFigures 85 = .ok (.sipush 256, 3) := by decide +kernel
theorem dX5_readFigures_88 : decode cX5_readFigures 88 = .ok (.goto 6, 3) := by decide +kernel
theorem dX5_readFigures_91 : decode cX5_readFigures 91 = .ok (.sipush 258, 3) := by decide +kernel
theorem dX5_readFigures_94 : decode cX5_readFigures 94 = .ok (.putfield 28, 3) := by decide +kernel
theorem dX5_readFigures_97 : decode cX5_readFigures 97 = .ok (.return_, 1) := by decide +kernel
theorem dX5_isFigure_0 : decode cX5_isFigure 0 = .ok (.iload_n 0, 1) := by decide +kernel
theorem dX5_isFigure_1 : decode cX5_isFigure 1 = .ok (.bipush 48, 2) := by decide +kernel
theorem dX5_isFigure_3 : decode cX5_isFigure 3 = .ok (.if_icmp .lt 13, 3) := by decide +kernel
theorem dX5_isFigure_6 : decode cX5_isFigure 6 = .ok (.iload_n 0, 1) := by decide +kernel
theorem dX5_isFigure_7 : decode cX5_isFigure 7 = .ok (.bipush 57, 2) := by decide +kernel
theorem dX5_isFigure_9 : decode cX5_isFigure 9 = .ok (.if_icmp .gt 7, 3) := by decide +kernel
theorem dX5_isFigure_12 : decode cX5_isFigure 12 = .ok (.iconst 1, 1) := by decide +kernel
theorem dX5_isFigure_13 : decode cX5_isFigure 13 = .ok (.goto 4, 3) := by decide +kernel
theorem dX5_isFigure_16 : decode cX5_isFigure 16 = .ok (.iconst 0, 1) := by decide +kernel
theorem dX5_isFigure_17 : decode cX5_isFigure 17 = .ok (.ireturn, 1) := by decide +kernel
theorem dX6_init_0 : decode cX6_init 0 = .ok (.aload_n 0, 1) := by decide +kernel
theorem dX6_init_1 : decode cX6_init 1 = .ok (.invokespecial 3, 3) := by decide +kernel
theorem dX6_init_4 : decode cX6_init 4 = .ok (.aload_n 0, 1) := by decide +kernel
theorem dX6_init_5 : decode cX6_init 5 = .ok (.iconst 4, 1) := by decide +kernel
theorem dX6_init_6 : decode cX6_init 6 = .ok (.anewarray 9, 3) := by decide +kernel
theorem dX6_init_9 : decode cX6_init 9 = .ok (.putfield 11, 3) := by decide +kernel
theorem dX6_init_12 : decode cX6_init 12 = .ok (.aload_n 0, 1) := by decide +kernel
theorem dX6_init_13 : decode cX6_init 13 = .ok (.iconst 0, 1) := by decide +kernel
theorem dX6_init_14 : decode cX6_init 14 = .ok (.putfield 17, 3) := by decide +kernel
theorem dX6_init_17 : decode cX6_init 17 = .ok (.aload_n 0, 1) := by decide +kernel
theorem dX6_init_18 : decode cX6_init 18 = .ok (.iconst 0, 1) := by decide +kernel
theorem dX6_init_19 : decode cX6_init 19 = .ok (.putfield 21, 3) := by decide +kernel
theorem dX6_init_22 : decode cX6_init 22 = .ok (.aload_n 0, 1) := by decide +kernel
theorem dX6_init_23 : decode cX6_init 23 = .ok (.iconst 0, 1) := by decide +kernel
theorem dX6_init_24 : decode cX6_init 24 = .ok (.putfield 24, 3) := by decide +kernel
theorem dX6_init_27 : decode cX6_init 27 = .ok (.aload_n 0, 1) := by decide +kernel
theorem dX6_init_28 : decode cX6_init 28 = .ok (.iconst 0, 1) := by decide +kernel
theorem dX6_init_29 : decode cX6_init 29 = .ok (.putfield 27, 3) := by decide +kernel
theorem dX6_init_32 : decode cX6_init 32 = .ok (.aload_n 0, 1) := by decide +kernel
theorem dX6_init_33 : decode cX6_init 33 = .ok (.iconst 0, 1) := by decide +kernel
theorem dX6_init_34 : decode cX6_init 34 = .ok (.putfield 30, 3) := by decide +kernel
theorem dX6_init_37 : decode cX6_init 37 = .ok (.aload_n 0, 1) := by decide +kernel
theorem dX6_init_38 : decode cX6_init 38 = .ok (.iconst 0, 1) := by decide +kernel
theorem dX6_init_39 : decode cX6_init 39 = .ok (.putfield 33, 3) := by decide +kernel
theorem dX6_init_42 : decode cX6_init 42 = .ok (.aload_n 0, 1) := by decide +kernel
theorem dX6_init_43 : decode cX6_init 43 = .ok (.iconst 0, 1) := by decide +kernel
theorem dX6_init_44 : decode cX6_init 44 = .ok (.putfield 36, 3) := by decide +kernel
theorem dX6_init_47 : decode cX6_init 47 = .ok (.aload_n 0, 1) := by decide +kernel
theorem dX6_init_48 : decode cX6_init 48 = .ok (.iconst 0, 1) := by decide +kernel
theorem dX6_init_49 : decode cX6_init 49 = .ok (.putfield 39, 3) := by decide +kernel
theorem dX6_init_52 : decode cX6_init 52 = .ok (.iconst 0, 1) := by decide +kernel
theorem dX6_init_53 : decode cX6_init 53 = .ok (.istore_n 2, 1) := by decide +kernel
theorem dX6_init_54 : decode cX6_init 54 = .ok (.iload_n 2, 1) := by decide +kernel
theorem dX6_init_55 : decode cX6_init 55 = .ok (.iconst 4, 1) := by decide +kernel
theorem dX6_init_56 : decode cX6_init 56 = .ok (.if_icmp .ge 24, 3) := by decide +kernel
theorem dX6_init_59 : decode cX6_init 59 = .ok (.aload_n 0, 1) := by decide +kernel
theorem dX6_init_60 : decode cX6_init 60 = .ok (.getfield 11, 3) := by decide +kernel
theorem dX6_init_63 : decode cX6_init 63 = .ok (.iload_n 2, 1) := by decide +kernel
theorem dX6_init_64 : decode cX6_init 64 = .ok (.new 9, 3) := by decide +kernel
theorem dX6_init_67 : decode cX6_init 67 = .ok (.dup, 1) := by decide +kernel
theorem dX6_init_68 : decode cX6_init 68 = .ok (.iload_n 2, 1) := by decide +kernel
theorem dX6_init_69 : decode cX6_init 69 = .ok (.aload_n 1, 1) := by decide +kernel
theorem dX6_init_70 : decode cX6_init 70 = .ok (.invokespecial 43, 3) := by decide +kernel
theorem dX6_init_73 : decode cX6_init 73 = .ok (.aastore, 1) := by decide +kernel
theorem dX6_init_74 : decode cX6_init 74 = .ok (.iinc 2 1, 3) := by decide +kernel
theorem dX6_init_77 : decode cX6_init 77 = .ok (.goto (-23), 3) := by decide +kernel
theorem dX6_init_80 : decode cX6_init 80 = .ok (.return_, 1) := by decide +kernel
theorem dX6_begin_0 : decode cX6_begin 0 = .ok (.aload_n 0, 1) := by decide +kernel
theorem dX6_begin_1 : decode cX6_begin 1 = .ok (.iconst 0, 1) := by decide +kernel
theorem dX6_begin_2 : decode cX6_begin 2 = .ok (.putfield 17, 3) := by decide +kernel
theorem dX6_begin_5 : decode cX6_begin 5 = .ok (.aload_n 0, 1) := by decide +kernel
theorem dX6_begin_6 : decode cX6_begin 6 = .ok (.iconst 0, 1) := by decide +kernel
theorem dX6_begin_7 : decode cX6_begin 7 = .ok (.putfield 33, 3) := by decide +kernel
theorem dX6_begin_10 : decode cX6_begin 10 = .ok (.aload_n 0, 1) := by decide +kernel
theorem dX6_begin_11 : decode cX6_begin 11 = .ok (.iconst 0, 1) := by decide +kernel
theorem dX6_begin_12 : decode cX6_begin 12 = .ok (.putfield 36, 3) := by decide +kernel
theorem dX6_begin_15 : decode cX6_begin 15 = .ok (.aload_n 0, 1) := by decide +kernel
theorem dX6_begin_16 : decode cX6_begin 16 = .ok (.iconst 0, 1) := by decide +kernel
theorem dX6_begin_17 : decode cX6_begin 17 = .ok (.putfield 39, 3) := by decide +kernel
theorem dX6_begin_20 : decode cX6_begin 20 = .ok (.iconst 0, 1) := by decide +kernel
theorem dX6_begin_21 : decode cX6_begin 21 = .ok (.istore_n 1, 1) := by decide +kernel
theorem dX6_begin_22 : decode cX6_begin 22 = .ok (.iload_n 1, 1) := by decide +kernel
theorem dX6_begin_23 : decode cX6_begin 23 = .ok (.iconst 4, 1) := by decide +kernel
theorem dX6_begin_24 : decode cX6_begin 24 = .ok (.if_icmp .ge 18, 3) := by decide +kernel
theorem dX6_begin_27 : decode cX6_begin 27 = .ok (.aload_n 0, 1) := by decide +kernel
theorem dX6_begin_28 : decode cX6_begin 28 = .ok (.getfield 11, 3) := by decide +kernel
theorem dX6_begin_31 : decode cX6_begin 31 = .ok (.iload_n 1, 1) := by decide +kernel
theorem dX6_begin_32 : decode cX6_begin 32 = .ok (.aaload, 1) := by decide +kernel
theorem dX6_begin_33 : decode cX6_begin 33 = .ok (.invokevirtual 46, 3) := by decide +kernel
theorem dX6_begin_36 : decode cX6_begin 36 = .ok (.iinc 1 1, 3) := by decide +kernel
theorem dX6_begin_39 : decode cX6_begin 39 = .ok (.goto (-17), 3) := by decide +kernel
theorem dX6_begin_42 : decode cX6_begin 42 = .ok (.return_, 1) := by decide +kernel
theorem dX6_take_0 : decode cX6_take 0 = .ok (.aload_n 0, 1) := by decide +kernel
theorem dX6_take_1 : decode cX6_take 1 = .ok (.aload_n 1, 1) := by decide +kernel
theorem dX6_take_2 : decode cX6_take 2 = .ok (.getfield 17, 3) := by decide +kernel
theorem dX6_take_5 : decode cX6_take 5 = .ok (.putfield 17, 3) := by decide +kernel
theorem dX6_take_8 : decode cX6_take 8 = .ok (.aload_n 0, 1) := by decide +kernel
theorem dX6_take_9 : decode cX6_take 9 = .ok (.aload_n 1, 1) := by decide +kernel
theorem dX6_take_10 : decode cX6_take 10 = .ok (.getfield 21, 3) := by decide +kernel
theorem dX6_take_13 : decode cX6_take 13 = .ok (.putfield 21, 3) := by decide +kernel
theorem dX6_take_16 : decode cX6_take 16 = .ok (.aload_n 0, 1) := by decide +kernel
theorem dX6_take_17 : decode cX6_take 17 = .ok (.aload_n 1, 1) := by decide +kernel
theorem dX6_take_18 : decode cX6_take 18 = .ok (.getfield 24, 3) := by decide +kernel
theorem dX6_take_21 : decode cX6_take 21 = .ok (.putfield 24, 3) := by decide +kernel
theorem dX6_take_24 : decode cX6_take 24 = .ok (.aload_n 0, 1) := by decide +kernel
theorem dX6_take_25 : decode cX6_take 25 = .ok (.aload_n 1, 1) := by decide +kernel
theorem dX6_take_26 : decode cX6_take 26 = .ok (.getfield 27, 3) := by decide +kernel
theorem dX6_take_29 : decode cX6_take 29 = .ok (.putfield 27, 3) := by decide +kernel
theorem dX6_take_32 : decode cX6_take 32 = .ok (.aload_n 0, 1) := by decide +kernel
theorem dX6_take_33 : decode cX6_take 33 = .ok (.aload_n 1, 1) := by decide +kernel
theorem dX6_take_34 : decode cX6_take 34 = .ok (.getfield 30, 3) := by decide +kernel
theorem dX6_take_37 : decode cX6_take 37 = .ok (.putfield 30, 3) := by decide +kernel
theorem dX6_take_40 : decode cX6_take 40 = .ok (.aload_n 0, 1) := by decide +kernel
theorem dX6_take_41 : decode cX6_take 41 = .ok (.aload_n 1, 1) := by decide +kernel
theorem dX6_take_42 : decode cX6_take 42 = .ok (.getfield 33, 3) := by decide +kernel
theorem dX6_take_45 : decode cX6_take 45 = .ok (.putfield 33, 3) := by decide +kernel
theorem dX6_take_48 : decode cX6_take 48 = .ok (.aload_n 0, 1) := by decide +kernel
theorem dX6_take_49 : decode cX6_take 49 = .ok (.aload_n 1, 1) := by decide +kernel
theorem dX6_take_50 : decode cX6_take 50 = .ok (.getfield 36, 3) := by decide +kernel
theorem dX6_take_53 : decode cX6_take 53 = .ok (.putfield 36, 3) := by decide +kernel
theorem dX6_take_56 : decode cX6_take 56 = .ok (.aload_n 0, 1) := by decide +kernel
theorem dX6_take_57 : decode cX6_take 57 = .ok (.aload_n 1, 1) := by decide +kernel
theorem dX6_take_58 : decode cX6_take 58 = .ok (.getfield 39, 3) := by decide +kernel
theorem dX6_take_61 : decode cX6_take 61 = .ok (.putfield 39, 3) := by decide +kernel
theorem dX6_take_64 : decode cX6_take 64 = .ok (.iconst 0, 1) := by decide +kernel
theorem dX6_take_65 : decode cX6_take 65 = .ok (.istore_n 2, 1) := by decide +kernel
theorem dX6_take_66 : decode cX6_take 66 = .ok (.iload_n 2, 1) := by decide +kernel
theorem dX6_take_67 : decode cX6_take 67 = .ok (.aload_n 0, 1) := by decide +kernel
theorem dX6_take_68 : decode cX6_take 68 = .ok (.getfield 17, 3) := by decide +kernel
theorem dX6_take_71 : decode cX6_take 71 = .ok (.if_icmp .ge 24, 3) := by decide +kernel
theorem dX6_take_74 : decode cX6_take 74 = .ok (.aload_n 0, 1) := by decide +kernel
theorem dX6_take_75 : decode cX6_take 75 = .ok (.getfield 11, 3) := by decide +kernel
theorem dX6_take_78 : decode cX6_take 78 = .ok (.iload_n 2, 1) := by decide +kernel
theorem dX6_take_79 : decode cX6_take 79 = .ok (.aaload, 1) := by decide +kernel
theorem dX6_take_80 : decode cX6_take 80 = .ok (.aload_n 1, 1) := by decide +kernel
theorem dX6_take_81 : decode cX6_take 81 = .ok (.getfield 11, 3) := by decide +kernel
theorem dX6_take_84 : decode cX6_take 84 = .ok (.iload_n 2, 1) := by decide +kernel
theorem dX6_take_85 : decode cX6_take 85 = .ok (.aaload, 1) := by decide +kernel
theorem dX6_take_86 : decode cX6_take 86 = .ok (.invokevirtual 49, 3) := by decide +kernel
theorem dX6_take_89 : decode cX6_take 89 = .ok (.iinc 2 1, 3) := by decide +kernel
theorem dX6_take_92 : decode cX6_take 92 = .ok (.goto (-26), 3) := by decide +kernel
theorem dX6_take_95 : decode cX6_take 95 = .ok (.return_, 1) := by decide +kernel
theorem dX6_ownWords_0 : decode cX6_ownWords 0 = .ok (.iconst (-1), 1) := by decide +kernel
theorem dX6_ownWords_1 : decode cX6_ownWords 1 = .ok (.istore_n 2, 1) := by decide +kernel
theorem dX6_ownWords_2 : decode cX6_ownWords 2 = .ok (.iconst 0, 1) := by decide +kernel
theorem dX6_ownWords_3 : decode cX6_ownWords 3 = .ok (.istore_n 3, 1) := by decide +kernel
theorem dX6_ownWords_4 : decode cX6_ownWords 4 = .ok (.iload_n 3, 1) := by decide +kernel
theorem dX6_ownWords_5 : decode cX6_ownWords 5 = .ok (.iload_n 1, 1) := by decide +kernel
theorem dX6_ownWords_6 : decode cX6_ownWords 6 = .ok (.if_icmp .ge 31, 3) := by decide +kernel
theorem dX6_ownWords_9 : decode cX6_ownWords 9 = .ok (.aload_n 0, 1) := by decide +kernel
theorem dX6_ownWords_10 : decode cX6_ownWords 10 = .ok (.getfield 11, 3) := by decide +kernel
theorem dX6_ownWords_13 : decode cX6_ownWords 13 = .ok (.iload_n 3, 1) := by decide +kernel
theorem dX6_ownWords_14 : decode cX6_ownWords 14 = .ok (.aaload, 1) := by decide +kernel
theorem dX6_ownWords_15 : decode cX6_ownWords 15 = .ok (.getfield 53, 3) := by decide +kernel
theorem dX6_ownWords_18 : decode cX6_ownWords 18 = .ok (.ifCond .eq 13, 3) := by decide +kernel
theorem dX6_ownWords_21 : decode cX6_ownWords 21 = .ok (.aload_n 0, 1) := by decide +kernel
theorem dX6_ownWords_22 : decode cX6_ownWords 22 = .ok (.getfield 11, 3) := by decide +kernel
theorem dX6_ownWords_25 : decode cX6_ownWords 25 = .ok (.iload_n 3, 1) := by decide +kernel
theorem dX6_ownWords_26 : decode cX6_ownWords 26 = .ok (.aaload, 1) := by decide +kernel
theorem dX6_ownWords_27 : decode cX6_ownWords 27 = .ok (.getfield 56, 3) := by decide +kernel
theorem dX6_ownWords_30 : decode cX6_ownWords 30 = .ok (.istore_n 2, 1) := by decide +kernel
theorem dX6_ownWords_31 : decode cX6_ownWords 31 = .ok (.iinc 3 1, 3) := by decide +kernel
theorem dX6_ownWords_34 : decode cX6_ownWords 34 = .ok (.goto (-30), 3) := by decide +kernel
theorem dX6_ownWords_37 : decode cX6_ownWords 37 = .ok (.aload_n 0, 1) := by decide +kernel
theorem dX6_ownWords_38 : decode cX6_ownWords 38 = .ok (.getfield 11, 3) := by decide +kernel
theorem dX6_ownWords_41 : decode cX6_ownWords 41 = .ok (.iload_n 1, 1) := by decide +kernel
theorem dX6_ownWords_42 : decode cX6_ownWords 42 = .ok (.aaload, 1) := by decide +kernel
theorem dX6_ownWords_43 : decode cX6_ownWords 43 = .ok (.astore_n 3, 1) := by decide +kernel
theorem dX6_ownWords_44 : decode cX6_ownWords 44 = .ok (.aload_n 3, 1) := by decide +kernel
theorem dX6_ownWords_45 : decode cX6_ownWords 45 = .ok (.getfield 59, 3) := by decide +kernel
theorem dX6_ownWords_48 : decode cX6_ownWords 48 = .ok (.aload_n 3, 1) := by decide +kernel
theorem dX6_ownWords_49 : decode cX6_ownWords 49 = .ok (.iload_n 2, 1) := by decide +kernel
theorem dX6_ownWords_50 : decode cX6_ownWords 50 = .ok (.invokevirtual 63, 3) := by decide +kernel
theorem dX6_ownWords_53 : decode cX6_ownWords 53 = .ok (.bipush 18, 2) := by decide +kernel
theorem dX6_ownWords_55 : decode cX6_ownWords 55 = .ok (.invokestatic 69, 3) := by decide +kernel
theorem dX6_ownWords_58 : decode cX6_ownWords 58 = .ok (.ireturn, 1) := by decide +kernel
theorem dX6_says_0 : decode cX6_says 0 = .ok (.aload_n 0, 1) := by decide +kernel
theorem dX6_says_1 : decode cX6_says 1 = .ok (.getfield 11, 3) := by decide +kernel
theorem dX6_says_4 : decode cX6_says 4 = .ok (.iload_n 1, 1) := by decide +kernel
theorem dX6_says_5 : decode cX6_says 5 = .ok (.aaload, 1) := by decide +kernel
theorem dX6_says_6 : decode cX6_says 6 = .ok (.getfield 53, 3) := by decide +kernel
theorem dX6_says_9 : decode cX6_says 9 = .ok (.ifCond .eq 15, 3) := by decide +kernel
theorem dX6_says_12 : decode cX6_says 12 = .ok (.aload_n 0, 1) := by decide +kernel
theorem dX6_says_13 : decode cX6_says 13 = .ok (.getfield 11, 3) := by decide +kernel
theorem dX6_says_16 : decode cX6_says 16 = .ok (.iload_n 1, 1) := by decide +kernel
theorem dX6_says_17 : decode cX6_says 17 = .ok (.aaload, 1) := by decide +kernel
theorem dX6_says_18 : decode cX6_says 18 = .ok (.getfield 56, 3) := by decide +kernel
theorem dX6_says_21 : decode cX6_says 21 = .ok (.goto 8, 3) := by decide +kernel
theorem dX6_says_24 : decode cX6_says 24 = .ok (.aload_n 0, 1) := by decide +kernel
theorem dX6_says_25 : decode cX6_says 25 = .ok (.iload_n 1, 1) := by decide +kernel
theorem dX6_says_26 : decode cX6_says 26 = .ok (.invokevirtual 75, 3) := by decide +kernel
theorem dX6_says_29 : decode cX6_says 29 = .ok (.ireturn, 1) := by decide +kernel
theorem dX6_weight_0 : decode cX6_weight 0 = .ok (.iload_n 2, 1) := by decide +kernel
theorem dX6_weight_1 : decode cX6_weight 1 = .ok (.tableswitch 42 1 3 #[27, 33, 35], 27) := by decide +kernel
theorem dX6_weight_28 : decode cX6_weight 28 = .ok (.iload_n 0, 1) := by decide +kernel
theorem dX6_weight_29 : decode cX6_weight 29 = .ok (.iload_n 1, 1) := by decide +kernel
theorem dX6_weight_30 : decode cX6_weight 30 = .ok (.iadd, 1) := by decide +kernel
theorem dX6_weight_31 : decode cX6_weight 31 = .ok (.iconst 1, 1) := by decide +kernel
theorem dX6_weight_32 : decode cX6_weight 32 = .ok (.iadd, 1) := by decide +kernel
theorem dX6_weight_33 : decode cX6_weight 33 = .ok (.ireturn, 1) := by decide +kernel
theorem dX6_weight_34 : decode cX6_weight 34 = .ok (.iconst 1, 1) := by decide +kernel
theorem dX6_weight_35 : decode cX6_weight 35 = .ok (.ireturn, 1) := by decide +kernel
theorem dX6_weight_36 : decode cX6_weight 36 = .ok (.bipush 18, 2) := by decide +kernel
theorem dX6_weight_38 : decode cX6_weight 38 = .ok (.iload_n 0, 1) := by decide +kernel
theorem dX6_weight_39 : decode cX6_weight 39 = .ok (.isub, 1) := by decide +kernel
theorem dX6_weight_40 : decode cX6_weight 40 = .ok (.iconst 1, 1) := by decide +kernel
theorem dX6_weight_41 : decode cX6_weight 41 = .ok (.iadd, 1) := by decide +kernel
theorem dX6_weight_42 : decode cX6_weight 42 = .ok (.ireturn, 1) := by decide +kernel
theorem dX6_weight_43 : decode cX6_weight 43 = .ok (.iload_n 0, 1) := by decide +kernel
theorem dX6_weight_44 : decode cX6_weight 44 = .ok (.iconst 1, 1) := by decide +kernel
theorem dX6_weight_45 : decode cX6_weight 45 = .ok (.iadd, 1) := by decide +kernel
theorem dX6_weight_46 : decode cX6_weight 46 = .ok (.ireturn, 1) := by decide +kernel
theorem dX6_weigh_0 : decode cX6_weigh 0 = .ok (.iconst 0, 1) := by decide +kernel
theorem dX6_weigh_1 : decode cX6_weigh 1 = .ok (.istore_n 3, 1) := by decide +kernel
theorem dX6_weigh_2 : decode cX6_weigh 2 = .ok (.iload_n 3, 1) := by decide +kernel
theorem dX6_weigh_3 : decode cX6_weigh 3 = .ok (.aload_n 0, 1) := by decide +kernel
theorem dX6_weigh_4 : decode cX6_weigh 4 = .ok (.getfield 17, 3) := by decide +kernel
theorem dX6_weigh_7 : decode cX6_weigh 7 = .ok (.if_icmp .ge 30, 3) := by decide +kernel
theorem dX6_weigh_10 : decode cX6_weigh 10 = .ok (.aload_n 2, 1) := by decide +kernel
theorem dX6_weigh_11 : decode cX6_weigh 11 = .ok (.iload_n 3, 1) := by decide +kernel
theorem dX6_weigh_12 : decode cX6_weigh 12 = .ok (.aload_n 0, 1) := by decide +kernel
theorem dX6_weigh_13 : decode cX6_weigh 13 = .ok (.iload_n 3, 1) := by decide +kernel
theorem dX6_weigh_14 : decode cX6_weigh 14 = .ok (.invokevirtual 79, 3) := by decide +kernel
theorem dX6_weigh_17 : decode cX6_weigh 17 = .ok (.aload_n 0, 1) := by decide +kernel
theorem dX6_weigh_18 : decode cX6_weigh 18 = .ok (.getfield 11, 3) := by decide +kernel
theorem dX6_weigh_21 : decode cX6_weigh 21 = .ok (.iload_n 3, 1) := by decide +kernel
theorem dX6_weigh_22 : decode cX6_weigh 22 = .ok (.aaload, 1) := by decide +kernel
theorem dX6_weigh_23 : decode cX6_weigh 23 = .ok (.getfield 82, 3) := by decide +kernel
theorem dX6_weigh_26 : decode cX6_weigh 26 = .ok (.iload_n 1, 1) := by decide +kernel
theorem dX6_weigh_27 : decode cX6_weigh 27 = .ok (.invokestatic 85, 3) := by decide +kernel
theorem dX6_weigh_30 : decode cX6_weigh 30 = .ok (.iastore, 1) := by decide +kernel
theorem dX6_weigh_31 : decode cX6_weigh 31 = .ok (.iinc 3 1, 3) := by decide +kernel
theorem dX6_weigh_34 : decode cX6_weigh 34 = .ok (.goto (-32), 3) := by decide +kernel
theorem dX6_weigh_37 : decode cX6_weigh 37 = .ok (.return_, 1) := by decide +kernel
theorem dX6_cut_0 : decode cX6_cut 0 = .ok (.iconst 0, 1) := by decide +kernel
theorem dX6_cut_1 : decode cX6_cut 1 = .ok (.istore_n 3, 1) := by decide +kernel
theorem dX6_cut_2 : decode cX6_cut 2 = .ok (.iconst 0, 1) := by decide +kernel
theorem dX6_cut_3 : decode cX6_cut 3 = .ok (.istore 4, 2) := by decide +kernel
theorem dX6_cut_5 : decode cX6_cut 5 = .ok (.iload 4, 2) := by decide +kernel
theorem dX6_cut_7 : decode cX6_cut 7 = .ok (.aload_n 0, 1) := by decide +kernel
theorem dX6_cut_8 : decode cX6_cut 8 = .ok (.getfield 17, 3) := by decide +kernel
theorem dX6_cut_11 : decode cX6_cut 11 = .ok (.if_icmp .ge 16, 3) := by decide +kernel
theorem dX6_cut_14 : decode cX6_cut 14 = .ok (.iload_n 3, 1) := by decide +kernel
theorem dX6_cut_15 : decode cX6_cut 15 = .ok (.aload_n 1, 1) := by decide +kernel
theorem dX6_cut_16 : decode cX6_cut 16 = .ok (.iload 4, 2) := by decide +kernel
theorem dX6_cut_18 : decode cX6_cut 18 = .ok (.iaload, 1) := by decide +kernel
theorem dX6_cut_19 : decode cX6_cut 19 = .ok (.iadd, 1) := by decide +kernel
theorem dX6_cut_20 : decode cX6_cut 20 = .ok (.istore_n 3, 1) := by decide +kernel
theorem dX6_cut_21 : decode cX6_cut 21 = .ok (.iinc 4 1, 3) := by decide +kernel
theorem dX6_cut_24 : decode cX6_cut 24 = .ok (.goto (-19), 3) := by decide +kernel
theorem dX6_cut_27 : decode cX6_cut 27 = .ok (.aload_n 1, 1) := by decide +kernel
theorem dX6_cut_28 : decode cX6_cut 28 = .ok (.aload_n 0, 1) := by decide +kernel
theorem dX6_cut_29 : decode cX6_cut 29 = .ok (.getfield 17, 3) := by decide +kernel
theorem dX6_cut_32 : decode cX6_cut 32 = .ok (.invokestatic 89, 3) := by decide +kernel
theorem dX6_cut_35 : decode cX6_cut 35 = .ok (.istore 4, 2) := by decide +kernel
theorem dX6_cut_37 : decode cX6_cut 37 = .ok (.aload_n 0, 1) := by decide +kernel
theorem dX6_cut_38 : decode cX6_cut 38 = .ok (.getfield 21, 3) := by decide +kernel
theorem dX6_cut_41 : decode cX6_cut 41 = .ok (.istore 5, 2) := by decide +kernel
theorem dX6_cut_43 : decode cX6_cut 43 = .ok (.iconst 0, 1) := by decide +kernel
theorem dX6_cut_44 : decode cX6_cut 44 = .ok (.istore 6, 2) := by decide +kernel
theorem dX6_cut_46 : decode cX6_cut 46 = .ok (.iload 6, 2) := by decide +kernel
theorem dX6_cut_48 : decode cX6_cut 48 = .ok (.aload_n 0, 1) := by decide +kernel
theorem dX6_cut_49 : decode cX6_cut 49 = .ok (.getfield 17, 3) := by decide +kernel
theorem dX6_cut_52 : decode cX6_cut 52 = .ok (.if_icmp .ge 43, 3) := by decide +kernel
theorem dX6_cut_55 : decode cX6_cut 55 = .ok (.iload_n 3, 1) := by decide +kernel
theorem dX6_cut_56 : decode cX6_cut 56 = .ok (.ifCond .le 17, 3) := by decide +kernel
theorem dX6_cut_59 : decode cX6_cut 59 = .ok (.aload_n 0, 1) := by decide +kernel
theorem dX6_cut_60 : decode cX6_cut 60 = .ok (.getfield 21, 3) := by decide +kernel
theorem dX6_cut_63 : decode cX6_cut 63 = .ok (.aload_n 1, 1) := by decide +kernel
theorem dX6_cut_64 : decode cX6_cut 64 = .ok (.iload 6, 2) := by decide +kernel
theorem dX6_cut_66 : decode cX6_cut 66 = .ok (.iaload, 1) := by decide +kernel
theorem dX6_cut_67 : decode cX6_cut 67 = .ok (.imul, 1) := by decide +kernel
theorem dX6_cut_68 : decode cX6_cut 68 = .ok (.iload_n 3, 1) := by decide +kernel
theorem dX6_cut_69 : decode cX6_cut 69 = .ok (.idiv, 1) := by decide +kernel
theorem dX6_cut_70 : decode cX6_cut 70 = .ok (.goto 4, 3) := by decide +kernel
theorem dX6_cut_73 : decode cX6_cut 73 = .ok (.iconst 0, 1) := by decide +kernel
theorem dX6_cut_74 : decode cX6_cut 74 = .ok (.istore 7, 2) := by decide +kernel
theorem dX6_cut_76 : decode cX6_cut 76 = .ok (.iload 5, 2) := by decide +kernel
theorem dX6_cut_78 : decode cX6_cut 78 = .ok (.iload 7, 2) := by decide +kernel
theorem dX6_cut_80 : decode cX6_cut 80 = .ok (.isub, 1) := by decide +kernel
theorem dX6_cut_81 : decode cX6_cut 81 = .ok (.istore 5, 2) := by decide +kernel
theorem dX6_cut_83 : decode cX6_cut 83 = .ok (.aload_n 2, 1) := by decide +kernel
theorem dX6_cut_84 : decode cX6_cut 84 = .ok (.iload 6, 2) := by decide +kernel
theorem dX6_cut_86 : decode cX6_cut 86 = .ok (.iload 7, 2) := by decide +kernel
theorem dX6_cut_88 : decode cX6_cut 88 = .ok (.iastore, 1) := by decide +kernel
theorem dX6_cut_89 : decode cX6_cut 89 = .ok (.iinc 6 1, 3) := by decide +kernel
theorem dX6_cut_92 : decode cX6_cut 92 = .ok (.goto (-46), 3) := by decide +kernel
theorem dX6_cut_95 : decode cX6_cut 95 = .ok (.aload_n 2, 1) := by decide +kernel
theorem dX6_cut_96 : decode cX6_cut 96 = .ok (.iload 4, 2) := by decide +kernel
theorem dX6_cut_98 : decode cX6_cut 98 = .ok (.dup2, 1) := by decide +kernel
theorem dX6_cut_99 : decode cX6_cut 99 = .ok (.iaload, 1) := by decide +kernel
theorem dX6_cut_100 : decode cX6_cut 100 = .ok (.iload 5, 2) := by decide +kernel
theorem dX6_cut_102 : decode cX6_cut 102 = .ok (.iadd, 1) := by decide +kernel
theorem dX6_cut_103 : decode cX6_cut 103 = .ok (.iastore, 1) := by decide +kernel
theorem dX6_cut_104 : decode cX6_cut 104 = .ok (.return_, 1) := by decide +kernel
theorem dX6_divide_0 : decode cX6_divide 0 = .ok (.aload_n 0, 1) := by decide +kernel
theorem dX6_divide_1 : decode cX6_divide 1 = .ok (.iload_n 1, 1) := by decide +kernel
theorem dX6_divide_2 : decode cX6_divide 2 = .ok (.aload_n 2, 1) := by decide +kernel
theorem dX6_divide_3 : decode cX6_divide 3 = .ok (.invokevirtual 93, 3) := by decide +kernel
theorem dX6_divide_6 : decode cX6_divide 6 = .ok (.aload_n 0, 1) := by decide +kernel
theorem dX6_divide_7 : decode cX6_divide 7 = .ok (.aload_n 2, 1) := by decide +kernel
theorem dX6_divide_8 : decode cX6_divide 8 = .ok (.aload_n 2, 1) := by decide +kernel
theorem dX6_divide_9 : decode cX6_divide 9 = .ok (.invokevirtual 97, 3) := by decide +kernel
theorem dX6_divide_12 : decode cX6_divide 12 = .ok (.return_, 1) := by decide +kernel
theorem dX6_allowedBy_0 : decode cX6_allowedBy 0 = .ok (.aload_n 0, 1) := by decide +kernel
theorem dX6_allowedBy_1 : decode cX6_allowedBy 1 = .ok (.getfield 11, 3) := by decide +kernel
theorem dX6_allowedBy_4 : decode cX6_allowedBy 4 = .ok (.iload_n 1, 1) := by decide +kernel
theorem dX6_allowedBy_5 : decode cX6_allowedBy 5 = .ok (.aaload, 1) := by decide +kernel
theorem dX6_allowedBy_6 : decode cX6_allowedBy 6 = .ok (.astore_n 2, 1) := by decide +kernel
theorem dX6_allowedBy_7 : decode cX6_allowedBy 7 = .ok (.aload_n 2, 1) := by decide +kernel
theorem dX6_allowedBy_8 : decode cX6_allowedBy 8 = .ok (.getfield 82, 3) := by decide +kernel
theorem dX6_allowedBy_11 : decode cX6_allowedBy 11 = .ok (.aload_n 0, 1) := by decide +kernel
theorem dX6_allowedBy_12 : decode cX6_allowedBy 12 = .ok (.getfield 27, 3) := by decide +kernel
theorem dX6_allowedBy_15 : decode cX6_allowedBy 15 = .ok (.aload_n 2, 1) := by decide +kernel
theorem dX6_allowedBy_16 : decode cX6_allowedBy 16 = .ok (.getfield 101, 3) := by decide +kernel
theorem dX6_allowedBy_19 : decode cX6_allowedBy 19 = .ok (.imul, 1) := by decide +kernel
theorem dX6_allowedBy_20 : decode cX6_allowedBy 20 = .ok (.isub, 1) := by decide +kernel
theorem dX6_allowedBy_21 : decode cX6_allowedBy 21 = .ok (.iconst 0, 1) := by decide +kernel
theorem dX6_allowedBy_22 : decode cX6_allowedBy 22 = .ok (.invokestatic 104, 3) := by decide +kernel
theorem dX6_allowedBy_25 : decode cX6_allowedBy 25 = .ok (.aload_n 2, 1) := by decide +kernel
theorem dX6_allowedBy_26 : decode cX6_allowedBy 26 = .ok (.getfield 107, 3) := by decide +kernel
theorem dX6_allowedBy_29 : decode cX6_allowedBy 29 = .ok (.iadd, 1) := by decide +kernel
theorem dX6_allowedBy_30 : decode cX6_allowedBy 30 = .ok (.istore_n 3, 1) := by decide +kernel
theorem dX6_allowedBy_31 : decode cX6_allowedBy 31 = .ok (.iload_n 3, 1) := by decide +kernel
theorem dX6_allowedBy_32 : decode cX6_allowedBy 32 = .ok (.aload_n 2, 1) := by decide +kernel
theorem dX6_allowedBy_33 : decode cX6_allowedBy 33 = .ok (.getfield 110, 3) := by decide +kernel
theorem dX6_allowedBy_36 : decode cX6_allowedBy 36 = .ok (.invokestatic 69, 3) := by decide +kernel
theorem dX6_allowedBy_39 : decode cX6_allowedBy 39 = .ok (.ireturn, 1) := by decide +kernel
theorem dX6_passMonth_0 : decode cX6_passMonth 0 = .ok (.aload_n 0, 1) := by decide +kernel
theorem dX6_passMonth_1 : decode cX6_passMonth 1 = .ok (.getfield 11, 3) := by decide +kernel
theorem dX6_passMonth_4 : decode cX6_passMonth 4 = .ok (.aload_n 0, 1) := by decide +kernel
theorem dX6_passMonth_5 : decode cX6_passMonth 5 = .ok (.getfield 33, 3) := by decide +kernel
theorem dX6_passMonth_8 : decode cX6_passMonth 8 = .ok (.aaload, 1) := by decide +kernel
theorem dX6_passMonth_9 : decode cX6_passMonth 9 = .ok (.astore_n 1, 1) := by decide +kernel
theorem dX6_passMonth_10 : decode cX6_passMonth 10 = .ok (.aload_n 0, 1) := by decide +kernel
theorem dX6_passMonth_11 : decode cX6_passMonth 11 = .ok (.aload_n 0, 1) := by decide +kernel
theorem dX6_passMonth_12 : decode cX6_passMonth 12 = .ok (.getfield 33, 3) := by decide +kernel
theorem dX6_passMonth_15 : decode cX6_passMonth 15 = .ok (.invokevirtual 113, 3) := by decide +kernel
theorem dX6_passMonth_18 : decode cX6_passMonth 18 = .ok (.istore_n 2, 1) := by decide +kernel
theorem dX6_passMonth_19 : decode cX6_passMonth 19 = .ok (.aload_n 0, 1) := by decide +kernel
theorem dX6_passMonth_20 : decode cX6_passMonth 20 = .ok (.aload_n 0, 1) := by decide +kernel
theorem dX6_passMonth_21 : decode cX6_passMonth 21 = .ok (.getfield 24, 3) := by decide +kernel
theorem dX6_passMonth_24 : decode cX6_passMonth 24 = .ok (.iload_n 2, 1) := by decide +kernel
theorem dX6_passMonth_25 : decode cX6_passMonth 25 = .ok (.invokestatic 69, 3) := by decide +kernel
theorem dX6_passMonth_28 : decode cX6_passMonth 28 = .ok (.putfield 24, 3) := by decide +kernel
theorem dX6_passMonth_31 : decode cX6_passMonth 31 = .ok (.iload_n 2, 1) := by decide +kernel
theorem dX6_passMonth_32 : decode cX6_passMonth 32 = .ok (.aload_n 1, 1) := by decide +kernel
theorem dX6_passMonth_33 : decode cX6_passMonth 33 = .ok (.getfield 82, 3) := by decide +kernel
theorem dX6_passMonth_36 : decode cX6_passMonth 36 = .ok (.if_icmp .ge 13, 3) := by decide +kernel
theorem dX6_passMonth_39 : decode cX6_passMonth 39 = .ok (.aload_n 1, 1) := by decide +kernel
theorem dX6_passMonth_40 : decode cX6_passMonth 40 = .ok (.dup, 1) := by decide +kernel
theorem dX6_passMonth_41 : decode cX6_passMonth 41 = .ok (.getfield 116, 3) := by decide +kernel
theorem dX6_passMonth_44 : decode cX6_passMonth 44 = .ok (.iconst 1, 1) := by decide +kernel
theorem dX6_passMonth_45 : decode cX6_passMonth 45 = .ok (.iadd, 1) := by decide +kernel
theorem dX6_passMonth_46 : decode cX6_passMonth 46 = .ok (.putfield 116, 3) := by decide +kernel
theorem dX6_passMonth_49 : decode cX6_passMonth 49 = .ok (.aload_n 1, 1) := by decide +kernel
theorem dX6_passMonth_50 : decode cX6_passMonth 50 = .ok (.dup, 1) := by decide +kernel
theorem dX6_passMonth_51 : decode cX6_passMonth 51 = .ok (.getfield 101, 3) := by decide +kernel
theorem dX6_passMonth_54 : decode cX6_passMonth 54 = .ok (.iconst 1, 1) := by decide +kernel
theorem dX6_passMonth_55 : decode cX6_passMonth 55 = .ok (.iadd, 1) := by decide +kernel
theorem dX6_passMonth_56 : decode cX6_passMonth 56 = .ok (.putfield 101, 3) := by decide +kernel
theorem dX6_passMonth_59 : decode cX6_passMonth 59 = .ok (.aload_n 0, 1) := by decide +kernel
theorem dX6_passMonth_60 : decode cX6_passMonth 60 = .ok (.dup, 1) := by decide +kernel
theorem dX6_passMonth_61 : decode cX6_passMonth 61 = .ok (.getfield 36, 3) := by decide +kernel
theorem dX6_passMonth_64 : decode cX6_passMonth 64 = .ok (.iconst 1, 1) := by decide +kernel
theorem dX6_passMonth_65 : decode cX6_passMonth 65 = .ok (.iadd, 1) := by decide +kernel
theorem dX6_passMonth_66 : decode cX6_passMonth 66 = .ok (.putfield 36, 3) := by decide +kernel
theorem dX6_passMonth_69 : decode cX6_passMonth 69 = .ok (.aload_n 0, 1) := by decide +kernel
theorem dX6_passMonth_70 : decode cX6_passMonth 70 = .ok (.aload_n 0, 1) := by decide +kernel
theorem dX6_passMonth_71 : decode cX6_passMonth 71 = .ok (.getfield 33, 3) := by decide +kernel
theorem dX6_passMonth_74 : decode cX6_passMonth 74 = .ok (.iconst 1, 1) := by decide +kernel
theorem dX6_passMonth_75 : decode cX6_passMonth 75 = .ok (.iadd, 1) := by decide +kernel
theorem dX6_passMonth_76 : decode cX6_passMonth 76 = .ok (.aload_n 0, 1) := by decide +kernel
theorem dX6_passMonth_77 : decode cX6_passMonth 77 = .ok (.getfield 17, 3) := by decide +kernel
theorem dX6_passMonth_80 : decode cX6_passMonth 80 = .ok (.if_icmp .ge 12, 3) := by decide +kernel
theorem dX6_passMonth_83 : decode cX6_passMonth 83 = .ok (.aload_n 0, 1) := by decide +kernel
theorem dX6_passMonth_84 : decode cX6_passMonth 84 = .ok (.getfield 33, 3) := by decide +kernel
theorem dX6_passMonth_87 : decode cX6_passMonth 87 = .ok (.iconst 1, 1) := by decide +kernel
theorem dX6_passMonth_88 : decode cX6_passMonth 88 = .ok (.iadd, 1) := by decide +kernel
theorem dX6_passMonth_89 : decode cX6_passMonth 89 = .ok (.goto 4, 3) := by decide +kernel
theorem dX6_passMonth_92 : decode cX6_passMonth 92 = .ok (.iconst 0, 1) := by decide +kernel
theorem dX6_passMonth_93 : decode cX6_passMonth 93 = .ok (.putfield 33, 3) := by decide +kernel
theorem dX6_passMonth_96 : decode cX6_passMonth 96 = .ok (.return_, 1) := by decide +kernel
theorem dX6_brokenByAll_0 : decode cX6_brokenByAll 0 = .ok (.iconst 0, 1) := by decide +kernel
theorem dX6_brokenByAll_1 : decode cX6_brokenByAll 1 = .ok (.istore_n 1, 1) := by decide +kernel
theorem dX6_brokenByAll_2 : decode cX6_brokenByAll 2 = .ok (.iconst 0, 1) := by decide +kernel
theorem dX6_brokenByAll_3 : decode cX6_brokenByAll 3 = .ok (.istore_n 2, 1) := by decide +kernel
theorem dX6_brokenByAll_4 : decode cX6_brokenByAll 4 = .ok (.iload_n 2, 1) := by decide +kernel
theorem dX6_brokenByAll_5 : decode cX6_brokenByAll 5 = .ok (.aload_n 0, 1) := by decide +kernel
theorem dX6_brokenByAll_6 : decode cX6_brokenByAll 6 = .ok (.getfield 17, 3) := by decide +kernel
theorem dX6_brokenByAll_9 : decode cX6_brokenByAll 9 = .ok (.if_icmp .ge 21, 3) := by decide +kernel
theorem dX6_brokenByAll_12 : decode cX6_brokenByAll 12 = .ok (.iload_n 1, 1) := by decide +kernel
theorem dX6_brokenByAll_13 : decode cX6_brokenByAll 13 = .ok (.aload_n 0, 1) := by decide +kernel
theorem dX6_brokenByAll_14 : decode cX6_brokenByAll 14 = .ok (.getfield 11, 3) := by decide +kernel
theorem dX6_brokenByAll_17 : decode cX6_brokenByAll 17 = .ok (.iload_n 2, 1) := by decide +kernel
theorem dX6_brokenByAll_18 : decode cX6_brokenByAll 18 = .ok (.aaload, 1) := by decide +kernel
theorem dX6_brokenByAll_19 : decode cX6_brokenByAll 19 = .ok (.getfield 116, 3) := by decide +kernel
theorem dX6_brokenByAll_22 : decode cX6_brokenByAll 22 = .ok (.iadd, 1) := by decide +kernel
theorem dX6_brokenByAll_23 : decode cX6_brokenByAll 23 = .ok (.istore_n 1, 1) := by decide +kernel
theorem dX6_brokenByAll_24 : decode cX6_brokenByAll 24 = .ok (.iinc 2 1, 3) := by decide +kernel
theorem dX6_brokenByAll_27 : decode cX6_brokenByAll 27 = .ok (.goto (-23), 3) := by decide +kernel
theorem dX6_brokenByAll_30 : decode cX6_brokenByAll 30 = .ok (.iload_n 1, 1) := by decide +kernel
theorem dX6_brokenByAll_31 : decode cX6_brokenByAll 31 = .ok (.ireturn, 1) := by decide +kernel
theorem dX7_init_0 : decode cX7_init 0 = .ok (.aload_n 0, 1) := by decide +kernel
theorem dX7_init_1 : decode cX7_init 1 = .ok (.invokespecial 3, 3) := by decide +kernel
theorem dX7_init_4 : decode cX7_init 4 = .ok (.aload_n 0, 1) := by decide +kernel
theorem dX7_init_5 : decode cX7_init 5 = .ok (.bipush 40, 2) := by decide +kernel
theorem dX7_init_7 : decode cX7_init 7 = .ok (.newarray .int, 2) := by decide +kernel
theorem dX7_init_9 : decode cX7_init 9 = .ok (.putfield 9, 3) := by decide +kernel
theorem dX7_init_12 : decode cX7_init 12 = .ok (.aload_n 0, 1) := by decide +kernel
theorem dX7_init_13 : decode cX7_init 13 = .ok (.iconst (-1), 1) := by decide +kernel
theorem dX7_init_14 : decode cX7_init 14 = .ok (.putfield 15, 3) := by decide +kernel
theorem dX7_init_17 : decode cX7_init 17 = .ok (.aload_n 0, 1) := by decide +kernel
theorem dX7_init_18 : decode cX7_init 18 = .ok (.iconst 0, 1) := by decide +kernel
theorem dX7_init_19 : decode cX7_init 19 = .ok (.putfield 19, 3) := by decide +kernel
theorem dX7_init_22 : decode cX7_init 22 = .ok (.return_, 1) := by decide +kernel
theorem dX7_missing_0 : decode cX7_missing 0 = .ok (.aload_n 0, 1) := by decide +kernel
theorem dX7_missing_1 : decode cX7_missing 1 = .ok (.getfield 15, 3) := by decide +kernel
theorem dX7_missing_4 : decode cX7_missing 4 = .ok (.iconst (-1), 1) := by decide +kernel
theorem dX7_missing_5 : decode cX7_missing 5 = .ok (.if_icmp .ne 7, 3) := by decide +kernel
theorem dX7_missing_8 : decode cX7_missing 8 = .ok (.iconst 1, 1) := by decide +kernel
theorem dX7_missing_9 : decode cX7_missing 9 = .ok (.goto 4, 3) := by decide +kernel
theorem dX7_missing_12 : decode cX7_missing 12 = .ok (.iconst 0, 1) := by decide +kernel
theorem dX7_missing_13 : decode cX7_missing 13 = .ok (.ireturn, 1) := by decide +kernel
theorem dX7_begin_0 : decode cX7_begin 0 = .ok (.aload_n 0, 1) := by decide +kernel
theorem dX7_begin_1 : decode cX7_begin 1 = .ok (.iload_n 1, 1) := by decide +kernel
theorem dX7_begin_2 : decode cX7_begin 2 = .ok (.putfield 15, 3) := by decide +kernel
theorem dX7_begin_5 : decode cX7_begin 5 = .ok (.aload_n 0, 1) := by decide +kernel
theorem dX7_begin_6 : decode cX7_begin 6 = .ok (.iload_n 2, 1) := by decide +kernel
theorem dX7_begin_7 : decode cX7_begin 7 = .ok (.putfield 19, 3) := by decide +kernel
theorem dX7_begin_10 : decode cX7_begin 10 = .ok (.iconst 0, 1) := by decide +kernel
theorem dX7_begin_11 : decode cX7_begin 11 = .ok (.istore_n 3, 1) := by decide +kernel
theorem dX7_begin_12 : decode cX7_begin 12 = .ok (.iload_n 3, 1) := by decide +kernel
theorem dX7_begin_13 : decode cX7_begin 13 = .ok (.iload_n 2, 1) := by decide +kernel
theorem dX7_begin_14 : decode cX7_begin 14 = .ok (.if_icmp .ge 16, 3) := by decide +kernel
theorem dX7_begin_17 : decode cX7_begin 17 = .ok (.aload_n 0, 1) := by decide +kernel
theorem dX7_begin_18 : decode cX7_begin 18 = .ok (.getfield 9, 3) := by decide +kernel
theorem dX7_begin_21 : decode cX7_begin 21 = .ok (.iload_n 3, 1) := by decide +kernel
theorem dX7_begin_22 : decode cX7_begin 22 = .ok (.iconst 0, 1) := by decide +kernel
theorem dX7_begin_23 : decode cX7_begin 23 = .ok (.iastore, 1) := by decide +kernel
theorem dX7_begin_24 : decode cX7_begin 24 = .ok (.iinc 3 1, 3) := by decide +kernel
theorem dX7_begin_27 : decode cX7_begin 27 = .ok (.goto (-15), 3) := by decide +kernel
theorem dX7_begin_30 : decode cX7_begin 30 = .ok (.return_, 1) := by decide +kernel
theorem dX7_end_0 : decode cX7_end 0 = .ok (.aload_n 0, 1) := by decide +kernel
theorem dX7_end_1 : decode cX7_end 1 = .ok (.iconst (-1), 1) := by decide +kernel
theorem dX7_end_2 : decode cX7_end 2 = .ok (.putfield 15, 3) := by decide +kernel
theorem dX7_end_5 : decode cX7_end 5 = .ok (.aload_n 0, 1) := by decide +kernel
theorem dX7_end_6 : decode cX7_end 6 = .ok (.iconst 0, 1) := by decide +kernel
theorem dX7_end_7 : decode cX7_end 7 = .ok (.putfield 19, 3) := by decide +kernel
theorem dX7_end_10 : decode cX7_end 10 = .ok (.return_, 1) := by decide +kernel
theorem dX7_holds_0 : decode cX7_holds 0 = .ok (.iload_n 1, 1) := by decide +kernel
theorem dX7_holds_1 : decode cX7_holds 1 = .ok (.ifCond .lt 21, 3) := by decide +kernel
theorem dX7_holds_4 : decode cX7_holds 4 = .ok (.iload_n 2, 1) := by decide +kernel
theorem dX7_holds_5 : decode cX7_holds 5 = .ok (.ifCond .lt 17, 3) := by decide +kernel
theorem dX7_holds_8 : decode cX7_holds 8 = .ok (.iload_n 1, 1) := by decide +kernel
theorem dX7_holds_9 : decode cX7_holds 9 = .ok (.aload_n 0, 1) := by decide +kernel
theorem dX7_holds_10 : decode cX7_holds 10 = .ok (.getfield 19, 3) := by decide +kernel
theorem dX7_holds_13 : decode cX7_holds 13 = .ok (.iload_n 2, 1) := by decide +kernel
theorem dX7_holds_14 : decode cX7_holds 14 = .ok (.isub, 1) := by decide +kernel
theorem dX7_holds_15 : decode cX7_holds 15 = .ok (.if_icmp .gt 7, 3) := by decide +kernel
theorem dX7_holds_18 : decode cX7_holds 18 = .ok (.iconst 1, 1) := by decide +kernel
theorem dX7_holds_19 : decode cX7_holds 19 = .ok (.goto 4, 3) := by decide +kernel
theorem dX7_holds_22 : decode cX7_holds 22 = .ok (.iconst 0, 1) := by decide +kernel
theorem dX7_holds_23 : decode cX7_holds 23 = .ok (.ireturn, 1) := by decide +kernel
theorem dX7_fitted_0 : decode cX7_fitted 0 = .ok (.aload_n 0, 1) := by decide +kernel
theorem dX7_fitted_1 : decode cX7_fitted 1 = .ok (.getfield 15, 3) := by decide +kernel
theorem dX7_fitted_4 : decode cX7_fitted 4 = .ok (.ifCond .ne 6, 3) := by decide +kernel
theorem dX7_fitted_7 : decode cX7_fitted 7 = .ok (.iload_n 1, 1) := by decide +kernel
theorem dX7_fitted_8 : decode cX7_fitted 8 = .ok (.i2b, 1) := by decide +kernel
theorem dX7_fitted_9 : decode cX7_fitted 9 = .ok (.ireturn, 1) := by decide +kernel
theorem dX7_fitted_10 : decode cX7_fitted 10 = .ok (.aload_n 0, 1) := by decide +kernel
theorem dX7_fitted_11 : decode cX7_fitted 11 = .ok (.getfield 15, 3) := by decide +kernel
theorem dX7_fitted_14 : decode cX7_fitted 14 = .ok (.iconst 1, 1) := by decide +kernel
theorem dX7_fitted_15 : decode cX7_fitted 15 = .ok (.if_icmp .ne 8, 3) := by decide +kernel
theorem dX7_fitted_18 : decode cX7_fitted 18 = .ok (.iload_n 1, 1) := by decide +kernel
theorem dX7_fitted_19 : decode cX7_fitted 19 = .ok (.i2s, 1) := by decide +kernel
theorem dX7_fitted_20 : decode cX7_fitted 20 = .ok (.goto 4, 3) := by decide +kernel
theorem dX7_fitted_23 : decode cX7_fitted 23 = .ok (.iload_n 1, 1) := by decide +kernel
theorem dX7_fitted_24 : decode cX7_fitted 24 = .ok (.ireturn, 1) := by decide +kernel
theorem dX7_tells_0 : decode cX7_tells 0 = .ok (.iconst 0, 1) := by decide +kernel
theorem dX7_tells_1 : decode cX7_tells 1 = .ok (.istore 4, 2) := by decide +kernel
theorem dX7_tells_3 : decode cX7_tells 3 = .ok (.iload 4, 2) := by decide +kernel
theorem dX7_tells_5 : decode cX7_tells 5 = .ok (.iload_n 3, 1) := by decide +kernel
theorem dX7_tells_6 : decode cX7_tells 6 = .ok (.if_icmp .ge 27, 3) := by decide +kernel
theorem dX7_tells_9 : decode cX7_tells 9 = .ok (.aload_n 0, 1) := by decide +kernel
theorem dX7_tells_10 : decode cX7_tells 10 = .ok (.getfield 9, 3) := by decide +kernel
theorem dX7_tells_13 : decode cX7_tells 13 = .ok (.iload_n 1, 1) := by decide +kernel
theorem dX7_tells_14 : decode cX7_tells 14 = .ok (.iload 4, 2) := by decide +kernel
theorem dX7_tells_16 : decode cX7_tells 16 = .ok (.iadd, 1) := by decide +kernel
theorem dX7_tells_17 : decode cX7_tells 17 = .ok (.iaload, 1) := by decide +kernel
theorem dX7_tells_18 : decode cX7_tells 18 = .ok (.aload_n 2, 1) := by decide +kernel
theorem dX7_tells_19 : decode cX7_tells 19 = .ok (.iload 4, 2) := by decide +kernel
theorem dX7_tells_21 : decode cX7_tells 21 = .ok (.iaload, 1) := by decide +kernel
theorem dX7_tells_22 : decode cX7_tells 22 = .ok (.if_icmp .eq 5, 3) := by decide +kernel
theorem dX7_tells_25 : decode cX7_tells 25 = .ok (.iconst 0, 1) := by decide +kernel
theorem dX7_tells_26 : decode cX7_tells 26 = .ok (.ireturn, 1) := by decide +kernel
theorem dX7_tells_27 : decode cX7_tells 27 = .ok (.iinc 4 1, 3) := by decide +kernel
theorem dX7_tells_30 : decode cX7_tells 30 = .ok (.goto (-27), 3) := by decide +kernel
theorem dX7_tells_33 : decode cX7_tells 33 = .ok (.iconst 1, 1) := by decide +kernel
theorem dX7_tells_34 : decode cX7_tells 34 = .ok (.ireturn, 1) := by decide +kernel
theorem dX8_init_0 : decode cX8_init 0 = .ok (.aload_n 0, 1) := by decide +kernel
theorem dX8_init_1 : decode cX8_init 1 = .ok (.invokespecial 1, 3) := by decide +kernel
theorem dX8_init_4 : decode cX8_init 4 = .ok (.return_, 1) := by decide +kernel
theorem dX8_number_0 : decode cX8_number 0 = .ok (.iconst 2, 1) := by decide +kernel
theorem dX8_number_1 : decode cX8_number 1 = .ok (.ireturn, 1) := by decide +kernel
theorem dX8_own_0 : decode cX8_own 0 = .ok (.aload_n 1, 1) := by decide +kernel
theorem dX8_own_1 : decode cX8_own 1 = .ok (.getfield 7, 3) := by decide +kernel
theorem dX8_own_4 : decode cX8_own 4 = .ok (.aload_n 1, 1) := by decide +kernel
theorem dX8_own_5 : decode cX8_own 5 = .ok (.getfield 13, 3) := by decide +kernel
theorem dX8_own_8 : decode cX8_own 8 = .ok (.iadd, 1) := by decide +kernel
theorem dX8_own_9 : decode cX8_own 9 = .ok (.ireturn, 1) := by decide +kernel
theorem dX8_size_0 : decode cX8_size 0 = .ok (.aload_n 2, 1) := by decide +kernel
theorem dX8_size_1 : decode cX8_size 1 = .ok (.bipush 12, 2) := by decide +kernel
theorem dX8_size_3 : decode cX8_size 3 = .ok (.invokevirtual 16, 3) := by decide +kernel
theorem dX8_size_6 : decode cX8_size 6 = .ok (.aload_n 0, 1) := by decide +kernel
theorem dX8_size_7 : decode cX8_size 7 = .ok (.aload_n 1, 1) := by decide +kernel
theorem dX8_size_8 : decode cX8_size 8 = .ok (.aload_n 2, 1) := by decide +kernel
theorem dX8_size_9 : decode cX8_size 9 = .ok (.invokespecial 22, 3) := by decide +kernel
theorem dX8_size_12 : decode cX8_size 12 = .ok (.ineg, 1) := by decide +kernel
theorem dX8_size_13 : decode cX8_size 13 = .ok (.ireturn, 1) := by decide +kernel
theorem dX8_mark_0 : decode cX8_mark 0 = .ok (.aload_n 2, 1) := by decide +kernel
theorem dX8_mark_1 : decode cX8_mark 1 = .ok (.bipush 24, 2) := by decide +kernel
theorem dX8_mark_3 : decode cX8_mark 3 = .ok (.invokevirtual 16, 3) := by decide +kernel
theorem dX8_mark_6 : decode cX8_mark 6 = .ok (.iconst 2, 1) := by decide +kernel
theorem dX8_mark_7 : decode cX8_mark 7 = .ok (.aload_n 0, 1) := by decide +kernel
theorem dX8_mark_8 : decode cX8_mark 8 = .ok (.aload_n 1, 1) := by decide +kernel
theorem dX8_mark_9 : decode cX8_mark 9 = .ok (.aload_n 2, 1) := by decide +kernel
theorem dX8_mark_10 : decode cX8_mark 10 = .ok (.invokespecial 26, 3) := by decide +kernel
theorem dX8_mark_13 : decode cX8_mark 13 = .ok (.imul, 1) := by decide +kernel
theorem dX8_mark_14 : decode cX8_mark 14 = .ok (.ireturn, 1) := by decide +kernel
theorem dX9_init_0 : decode cX9_init 0 = .ok (.aload_n 0, 1) := by decide +kernel
theorem dX9_init_1 : decode cX9_init 1 = .ok (.invokespecial 1, 3) := by decide +kernel
theorem dX9_init_4 : decode cX9_init 4 = .ok (.return_, 1) := by decide +kernel
theorem dX9_number_0 : decode cX9_number 0 = .ok (.iconst 4, 1) := by decide +kernel
theorem dX9_number_1 : decode cX9_number 1 = .ok (.ireturn, 1) := by decide +kernel
theorem dX9_own_0 : decode cX9_own 0 = .ok (.iconst 0, 1) := by decide +kernel
theorem dX9_own_1 : decode cX9_own 1 = .ok (.ireturn, 1) := by decide +kernel
theorem dX9_size_0 : decode cX9_size 0 = .ok (.aload_n 2, 1) := by decide +kernel
theorem dX9_size_1 : decode cX9_size 1 = .ok (.bipush 13, 2) := by decide +kernel
theorem dX9_size_3 : decode cX9_size 3 = .ok (.invokevirtual 7, 3) := by decide +kernel
theorem dX9_size_6 : decode cX9_size 6 = .ok (.aload_n 0, 1) := by decide +kernel
theorem dX9_size_7 : decode cX9_size 7 = .ok (.aload_n 1, 1) := by decide +kernel
theorem dX9_size_8 : decode cX9_size 8 = .ok (.aload_n 2, 1) := by decide +kernel
theorem dX9_size_9 : decode cX9_size 9 = .ok (.invokespecial 13, 3) := by decide +kernel
theorem dX9_size_12 : decode cX9_size 12 = .ok (.bipush 100, 2) := by decide +kernel
theorem dX9_size_14 : decode cX9_size 14 = .ok (.isub, 1) := by decide +kernel
theorem dX9_size_15 : decode cX9_size 15 = .ok (.ireturn, 1) := by decide +kernel
theorem dX9_mark_0 : decode cX9_mark 0 = .ok (.aload_n 2, 1) := by decide +kernel
theorem dX9_mark_1 : decode cX9_mark 1 = .ok (.bipush 23, 2) := by decide +kernel
theorem dX9_mark_3 : decode cX9_mark 3 = .ok (.invokevirtual 7, 3) := by decide +kernel
theorem dX9_mark_6 : decode cX9_mark 6 = .ok (.aload_n 0, 1) := by decide +kernel
theorem dX9_mark_7 : decode cX9_mark 7 = .ok (.aload_n 1, 1) := by decide +kernel
theorem dX9_mark_8 : decode cX9_mark 8 = .ok (.aload_n 2, 1) := by decide +kernel
theorem dX9_mark_9 : decode cX9_mark 9 = .ok (.invokespecial 17, 3) := by decide +kernel
theorem dX9_mark_12 : decode cX9_mark 12 = .ok (.aload_n 0, 1) := by decide +kernel
theorem dX9_mark_13 : decode cX9_mark 13 = .ok (.aload_n 1, 1) := by decide +kernel
theorem dX9_mark_14 : decode cX9_mark 14 = .ok (.aload_n 2, 1) := by decide +kernel
theorem dX9_mark_15 : decode cX9_mark 15 = .ok (.invokevirtual 20, 3) := by decide +kernel
theorem dX9_mark_18 : decode cX9_mark 18 = .ok (.isub, 1) := by decide +kernel
theorem dX9_mark_19 : decode cX9_mark 19 = .ok (.ireturn, 1) := by decide +kernel
theorem dX10_init_0 : decode cX10_init 0 = .ok (.aload_n 0, 1) := by decide +kernel
theorem dX10_init_1 : decode cX10_init 1 = .ok (.invokespecial 1, 3) := by decide +kernel
theorem dX10_init_4 : decode cX10_init 4 = .ok (.aload_n 0, 1) := by decide +kernel
theorem dX10_init_5 : decode cX10_init 5 = .ok (.bipush 16, 2) := by decide +kernel
theorem dX10_init_7 : decode cX10_init 7 = .ok (.newarray .int, 2) := by decide +kernel
theorem dX10_init_9 : decode cX10_init 9 = .ok (.putfield 9, 3) := by decide +kernel
theorem dX10_init_12 : decode cX10_init 12 = .ok (.aload_n 0, 1) := by decide +kernel
theorem dX10_init_13 : decode cX10_init 13 = .ok (.iconst 0, 1) := by decide +kernel
theorem dX10_init_14 : decode cX10_init 14 = .ok (.putfield 13, 3) := by decide +kernel
theorem dX10_init_17 : decode cX10_init 17 = .ok (.return_, 1) := by decide +kernel
theorem dX10_leave_0 : decode cX10_leave 0 = .ok (.aload_n 0, 1) := by decide +kernel
theorem dX10_leave_1 : decode cX10_leave 1 = .ok (.getfield 13, 3) := by decide +kernel
theorem dX10_leave_4 : decode cX10_leave 4 = .ok (.bipush 16, 2) := by decide +kernel
theorem dX10_leave_6 : decode cX10_leave 6 = .ok (.if_icmp .ge 23, 3) := by decide +kernel
theorem dX10_leave_9 : decode cX10_leave 9 = .ok (.aload_n 0, 1) := by decide +kernel
theorem dX10_leave_10 : decode cX10_leave 10 = .ok (.getfield 9, 3) := by decide +kernel
theorem dX10_leave_13 : decode cX10_leave 13 = .ok (.aload_n 0, 1) := by decide +kernel
theorem dX10_leave_14 : decode cX10_leave 14 = .ok (.getfield 13, 3) := by decide +kernel
theorem dX10_leave_17 : decode cX10_leave 17 = .ok (.iload_n 1, 1) := by decide +kernel
theorem dX10_leave_18 : decode cX10_leave 18 = .ok (.iastore, 1) := by decide +kernel
theorem dX10_leave_19 : decode cX10_leave 19 = .ok (.aload_n 0, 1) := by decide +kernel
theorem dX10_leave_20 : decode cX10_leave 20 = .ok (.dup, 1) := by decide +kernel
theorem dX10_leave_21 : decode cX10_leave 21 = .ok (.getfield 13, 3) := by decide +kernel
theorem dX10_leave_24 : decode cX10_leave 24 = .ok (.iconst 1, 1) := by decide +kernel
theorem dX10_leave_25 : decode cX10_leave 25 = .ok (.iadd, 1) := by decide +kernel
theorem dX10_leave_26 : decode cX10_leave 26 = .ok (.putfield 13, 3) := by decide +kernel
theorem dX10_leave_29 : decode cX10_leave 29 = .ok (.return_, 1) := by decide +kernel
theorem dL_law_0 : decode cL_law 0 = .ok (.new 7, 3) := by decide +kernel
theorem dL_law_3 : decode cL_law 3 = .ok (.dup, 1) := by decide +kernel
theorem dL_law_4 : decode cL_law 4 = .ok (.invokespecial 9, 3) := by decide +kernel
theorem dL_law_7 : decode cL_law 7 = .ok (.astore_n 1, 1) := by decide +kernel
theorem dL_law_8 : decode cL_law 8 = .ok (.new 10, 3) := by decide +kernel
theorem dL_law_11 : decode cL_law 11 = .ok (.dup, 1) := by decide +kernel
theorem dL_law_12 : decode cL_law 12 = .ok (.invokespecial 12, 3) := by decide +kernel
theorem dL_law_15 : decode cL_law 15 = .ok (.astore_n 2, 1) := by decide +kernel
theorem dL_law_16 : decode cL_law 16 = .ok (.iconst 0, 1) := by decide +kernel
theorem dL_law_17 : decode cL_law 17 = .ok (.istore_n 3, 1) := by decide +kernel
theorem dL_law_18 : decode cL_law 18 = .ok (.iload_n 3, 1) := by decide +kernel
theorem dL_law_19 : decode cL_law 19 = .ok (.aload_n 0, 1) := by decide +kernel
theorem dL_law_20 : decode cL_law 20 = .ok (.arraylength, 1) := by decide +kernel
theorem dL_law_21 : decode cL_law 21 = .ok (.bipush 6, 2) := by decide +kernel
theorem dL_law_23 : decode cL_law 23 = .ok (.isub, 1) := by decide +kernel
theorem dL_law_24 : decode cL_law 24 = .ok (.if_icmp .gt 1196, 3) := by decide +kernel
theorem dL_law_27 : decode cL_law 27 = .ok (.aload_n 0, 1) := by decide +kernel
theorem dL_law_28 : decode cL_law 28 = .ok (.iload_n 3, 1) := by decide +kernel
theorem dL_law_29 : decode cL_law 29 = .ok (.iaload, 1) := by decide +kernel
theorem dL_law_30 : decode cL_law 30 = .ok (.bipush 63, 2) := by decide +kernel
theorem dL_law_32 : decode cL_law 32 = .ok (.iand, 1) := by decide +kernel
theorem dL_law_33 : decode cL_law 33 = .ok (.tableswitch 1181 0 34 #[155, 198, 241, 304, 327, 350, 363, 376, 389, 432, 445, 468, 491, 524, 557, 580, 613, 646, 659, 672, 705, 738, 761, 824, 857, 900, 944, 987, 1010, 1033, 1056, 1089, 1122, 1145, 1168], 155) := by decide +kernel
theorem dL_law_188 : decode cL_law 188 = .ok (.aload_n 1, 1) := by decide +kernel
theorem dL_law_189 : decode cL_law 189 = .ok (.aload_n 0, 1) := by decide +kernel
theorem dL_law_190 : decode cL_law 190 = .ok (.iload_n 3, 1) := by decide +kernel
theorem dL_law_191 : decode cL_law 191 = .ok (.iconst 1, 1) := by decide +kernel
theorem dL_law_192 : decode cL_law 192 = .ok (.iadd, 1) := by decide +kernel
theorem dL_law_193 : decode cL_law 193 = .ok (.iaload, 1) := by decide +kernel
theorem dL_law_194 : decode cL_law 194 = .ok (.aload_n 0, 1) := by decide +kernel
theorem dL_law_195 : decode cL_law 195 = .ok (.iload_n 3, 1) := by decide +kernel
theorem dL_law_196 : decode cL_law 196 = .ok (.iconst 2, 1) := by decide +kernel
theorem dL_law_197 : decode cL_law 197 = .ok (.iadd, 1) := by decide +kernel
theorem dL_law_198 : decode cL_law 198 = .ok (.iaload, 1) := by decide +kernel
theorem dL_law_199 : decode cL_law 199 = .ok (.aload_n 0, 1) := by decide +kernel
theorem dL_law_200 : decode cL_law 200 = .ok (.iload_n 3, 1) := by decide +kernel
theorem dL_law_201 : decode cL_law 201 = .ok (.iconst 3, 1) := by decide +kernel
theorem dL_law_202 : decode cL_law 202 = .ok (.iadd, 1) := by decide +kernel
theorem dL_law_203 : decode cL_law 203 = .ok (.iaload, 1) := by decide +kernel
theorem dL_law_204 : decode cL_law 204 = .ok (.invokevirtual 13, 3) := by decide +kernel
theorem dL_law_207 : decode cL_law 207 = .ok (.aload_n 2, 1) := by decide +kernel
theorem dL_law_208 : decode cL_law 208 = .ok (.aload_n 0, 1) := by decide +kernel
theorem dL_law_209 : decode cL_law 209 = .ok (.iload_n 3, 1) := by decide +kernel
theorem dL_law_210 : decode cL_law 210 = .ok (.iconst 1, 1) := by decide +kernel
theorem dL_law_211 : decode cL_law 211 = .ok (.iadd, 1) := by decide +kernel
theorem dL_law_212 : decode cL_law 212 = .ok (.iaload, 1) := by decide +kernel
theorem dL_law_213 : decode cL_law 213 = .ok (.aload_n 0, 1) := by decide +kernel
theorem dL_law_214 : decode cL_law 214 = .ok (.iload_n 3, 1) := by decide +kernel
theorem dL_law_215 : decode cL_law 215 = .ok (.iconst 2, 1) := by decide +kernel
theorem dL_law_216 : decode cL_law 216 = .ok (.iadd, 1) := by decide +kernel
theorem dL_law_217 : decode cL_law 217 = .ok (.iaload, 1) := by decide +kernel
theorem dL_law_218 : decode cL_law 218 = .ok (.aload_n 0, 1) := by decide +kernel
theorem dL_law_219 : decode cL_law 219 = .ok (.iload_n 3, 1) := by decide +kernel
theorem dL_law_220 : decode cL_law 220 = .ok (.iconst 3, 1) := by decide +kernel
theorem dL_law_221 : decode cL_law 221 = .ok (.iadd, 1) := by decide +kernel
theorem dL_law_222 : decode cL_law 222 = .ok (.iaload, 1) := by decide +kernel
theorem dL_law_223 : decode cL_law 223 = .ok (.invokevirtual 17, 3) := by decide +kernel
theorem dL_law_226 : decode cL_law 226 = .ok (.if_icmp .eq 988, 3) := by decide +kernel
theorem dL_law_229 : decode cL_law 229 = .ok (.iconst 0, 1) := by decide +kernel
theorem dL_law_230 : decode cL_law 230 = .ok (.ireturn, 1) := by decide +kernel
theorem dL_law_231 : decode cL_law 231 = .ok (.aload_n 1, 1) := by decide +kernel
theorem dL_law_232 : decode cL_law 232 = .ok (.aload_n 0, 1) := by decide +kernel
theorem dL_law_233 : decode cL_law 233 = .ok (.iload_n 3, 1) := by decide +kernel
theorem dL_law_234 : decode cL_law 234 = .ok (.iconst 1, 1) := by decide +kernel
theorem dL_law_235 : decode cL_law 235 = .ok (.iadd, 1) := by decide +kernel
theorem dL_law_236 : decode cL_law 236 = .ok (.iaload, 1) := by decide +kernel
theorem dL_law_237 : decode cL_law 237 = .ok (.aload_n 0, 1) := by decide +kernel
theorem dL_law_238 : decode cL_law 238 = .ok (.iload_n 3, 1) := by decide +kernel
theorem dL_law_239 : decode cL_law 239 = .ok (.iconst 2, 1) := by decide +kernel
theorem dL_law_240 : decode cL_law 240 = .ok (.iadd, 1) := by decide +kernel
theorem dL_law_241 : decode cL_law 241 = .ok (.iaload, 1) := by decide +kernel
theorem dL_law_242 : decode cL_law 242 = .ok (.aload_n 0, 1) := by decide +kernel
theorem dL_law_243 : decode cL_law 243 = .ok (.iload_n 3, 1) := by decide +kernel
theorem dL_law_244 : decode cL_law 244 = .ok (.iconst 3, 1) := by decide +kernel
theorem dL_law_245 : decode cL_law 245 = .ok (.iadd, 1) := by decide +kernel
theorem dL_law_246 : decode cL_law 246 = .ok (.iaload, 1) := by decide +kernel
theorem dL_law_247 : decode cL_law 247 = .ok (.invokevirtual 18, 3) := by decide +kernel
theorem dL_law_250 : decode cL_law 250 = .ok (.aload_n 2, 1) := by decide +kernel
theorem dL_law_251 : decode cL_law 251 = .ok (.aload_n 0, 1) := by decide +kernel
theorem dL_law_252 : decode cL_law 252 = .ok (.iload_n 3, 1) := by decide +kernel
theorem dL_law_253 : decode cL_law 253 = .ok (.iconst 1, 1) := by decide +kernel
theorem dL_law_254 : decode cL_law 254 = .ok (.iadd, 1) := by decide +kernel
theorem dL_law_255 : decode cL_law 255 = .ok (.iaload, 1) := by decide +kernel
theorem dL_law_256 : decode cL_law 256 = .ok (.aload_n 0, 1) := by decide +kernel
theorem dL_law_257 : decode cL_law 257 = .ok (.iload_n 3, 1) := by decide +kernel
theorem dL_law_258 : decode cL_law 258 = .ok (.iconst 2, 1) := by decide +kernel
theorem dL_law_259 : decode cL_law 259 = .ok (.iadd, 1) := by decide +kernel
theorem dL_law_260 : decode cL_law 260 = .ok (.iaload, 1) := by decide +kernel
theorem dL_law_261 : decode cL_law 261 = .ok (.aload_n 0, 1) := by decide +kernel
theorem dL_law_262 : decode cL_law 262 = .ok (.iload_n 3, 1) := by decide +kernel
theorem dL_law_263 : decode cL_law 263 = .ok (.iconst 3, 1) := by decide +kernel
theorem dL_law_264 : decode cL_law 264 = .ok (.iadd, 1) := by decide +kernel
theorem dL_law_265 : decode cL_law 265 = .ok (.iaload, 1) := by decide +kernel
theorem dL_law_266 : decode cL_law 266 = .ok (.invokevirtual 21, 3) := by decide +kernel
theorem dL_law_269 : decode cL_law 269 = .ok (.if_icmp .eq 945, 3) := by decide +kernel
theorem dL_law_272 : decode cL_law 272 = .ok (.iconst 0, 1) := by decide +kernel
theorem dL_law_273 : decode cL_law 273 = .ok (.ireturn, 1) := by decide +kernel
theorem dL_law_274 : decode cL_law 274 = .ok (.aload_n 1, 1) := by decide +kernel
theorem dL_law_275 : decode cL_law 275 = .ok (.aload_n 0, 1) := by decide +kernel
theorem dL_law_276 : decode cL_law 276 = .ok (.iload_n 3, 1) := by decide +kernel
theorem dL_law_277 : decode cL_law 277 = .ok (.iconst 1, 1) := by decide +kernel
theorem dL_law_278 : decode cL_law 278 = .ok (.iadd, 1) := by decide +kernel
theorem dL_law_279 : decode cL_law 279 = .ok (.iaload, 1) := by decide +kernel
theorem dL_law_280 : decode cL_law 280 = .ok (.aload_n 0, 1) := by decide +kernel
theorem dL_law_281 : decode cL_law 281 = .ok (.iload_n 3, 1) := by decide +kernel
theorem dL_law_282 : decode cL_law 282 = .ok (.iconst 2, 1) := by decide +kernel
theorem dL_law_283 : decode cL_law 283 = .ok (.iadd, 1) := by decide +kernel
theorem dL_law_284 : decode cL_law 284 = .ok (.iaload, 1) := by decide +kernel
theorem dL_law_285 : decode cL_law 285 = .ok (.aload_n 0, 1) := by decide +kernel
theorem dL_law_286 : decode cL_law 286 = .ok (.iload_n 3, 1) := by decide +kernel
theorem dL_law_287 : decode cL_law 287 = .ok (.iconst 3, 1) := by decide +kernel
theorem dL_law_288 : decode cL_law 288 = .ok (.iadd, 1) := by decide +kernel
theorem dL_law_289 : decode cL_law 289 = .ok (.iaload, 1) := by decide +kernel
theorem dL_law_290 : decode cL_law 290 = .ok (.aload_n 0, 1) := by decide +kernel
theorem dL_law_291 : decode cL_law 291 = .ok (.iload_n 3, 1) := by decide +kernel
theorem dL_law_292 : decode cL_law 292 = .ok (.iconst 4, 1) := by decide +kernel
theorem dL_law_293 : decode cL_law 293 = .ok (.iadd, 1) := by decide +kernel
theorem dL_law_294 : decode cL_law 294 = .ok (.iaload, 1) := by decide +kernel
theorem dL_law_295 : decode cL_law 295 = .ok (.aload_n 0, 1) := by decide +kernel
theorem dL_law_296 : decode cL_law 296 = .ok (.iload_n 3, 1) := by decide +kernel
theorem dL_law_297 : decode cL_law 297 = .ok (.iconst 5, 1) := by decide +kernel
theorem dL_law_298 : decode cL_law 298 = .ok (.iadd, 1) := by decide +kernel
theorem dL_law_299 : decode cL_law 299 = .ok (.iaload, 1) := by decide +kernel
theorem dL_law_300 : decode cL_law 300 = .ok (.invokevirtual 22, 3) := by decide +kernel
theorem dL_law_303 : decode cL_law 303 = .ok (.aload_n 2, 1) := by decide +kernel
theorem dL_law_304 : decode cL_law 304 = .ok (.aload_n 0, 1) := by decide +kernel
theorem dL_law_305 : decode cL_law 305 = .ok (.iload_n 3, 1) := by decide +kernel
theorem dL_law_306 : decode cL_law 306 = .ok (.iconst 1, 1) := by decide +kernel
theorem dL_law_307 : decode cL_law 307 = .ok (.iadd, 1) := by decide +kernel
theorem dL_law_308 : decode cL_law 308 = .ok (.iaload, 1) := by decide +kernel
theorem dL_law_309 : decode cL_law 309 = .ok (.aload_n 0, 1) := by decide +kernel
theorem dL_law_310 : decode cL_law 310 = .ok (.iload_n 3, 1) := by decide +kernel
theorem dL_law_311 : decode cL_law 311 = .ok (.iconst 2, 1) := by decide +kernel
theorem dL_law_312 : decode cL_law 312 = .ok (.iadd, 1) := by decide +kernel
theorem dL_law_313 : decode cL_law 313 = .ok (.iaload, 1) := by decide +kernel
theorem dL_law_314 : decode cL_law 314 = .ok (.aload_n 0, 1) := by decide +kernel
theorem dL_law_315 : decode cL_law 315 = .ok (.iload_n 3, 1) := by decide +kernel
theorem dL_law_316 : decode cL_law 316 = .ok (.iconst 3, 1) := by decide +kernel
theorem dL_law_317 : decode cL_law 317 = .ok (.iadd, 1) := by decide +kernel
theorem dL_law_318 : decode cL_law 318 = .ok (.iaload, 1) := by decide +kernel
theorem dL_law_319 : decode cL_law 319 = .ok (.aload_n 0, 1) := by decide +kernel
theorem dL_law_320 : decode cL_law 320 = .ok (.iload_n 3, 1) := by decide +kernel
theorem dL_law_321 : decode cL_law 321 = .ok (.iconst 4, 1) := by decide +kernel
theorem dL_law_322 : decode cL_law 322 = .ok (.iadd, 1) := by decide +kernel
theorem dL_law_323 : decode cL_law 323 = .ok (.iaload, 1) := by decide +kernel
theorem dL_law_324 : decode cL_law 324 = .ok (.aload_n 0, 1) := by decide +kernel
theorem dL_law_325 : decode cL_law 325 = .ok (.iload_n 3, 1) := by decide +kernel
theorem dL_law_326 : decode cL_law 326 = .ok (.iconst 5, 1) := by decide +kernel
theorem dL_law_327 : decode cL_law 327 = .ok (.iadd, 1) := by decide +kernel
theorem dL_law_328 : decode cL_law 328 = .ok (.iaload, 1) := by decide +kernel
theorem dL_law_329 : decode cL_law 329 = .ok (.invokevirtual 26, 3) := by decide +kernel
theorem dL_law_332 : decode cL_law 332 = .ok (.if_icmp .eq 882, 3) := by decide +kernel
theorem dL_law_335 : decode cL_law 335 = .ok (.iconst 0, 1) := by decide +kernel
theorem dL_law_336 : decode cL_law 336 = .ok (.ireturn, 1) := by decide +kernel
theorem dL_law_337 : decode cL_law 337 = .ok (.aload_n 1, 1) := by decide +kernel
theorem dL_law_338 : decode cL_law 338 = .ok (.aload_n 0, 1) := by decide +kernel
theorem dL_law_339 : decode cL_law 339 = .ok (.iload_n 3, 1) := by decide +kernel
theorem dL_law_340 : decode cL_law 340 = .ok (.iconst 1, 1) := by decide +kernel
theorem dL_law_341 : decode cL_law 341 = .ok (.iadd, 1) := by decide +kernel
theorem dL_law_342 : decode cL_law 342 = .ok (.iaload, 1) := by decide +kernel
theorem dL_law_343 : decode cL_law 343 = .ok (.invokevirtual 27, 3) := by decide +kernel
theorem dL_law_346 : decode cL_law 346 = .ok (.aload_n 2, 1) := by decide +kernel
theorem dL_law_347 : decode cL_law 347 = .ok (.aload_n 0, 1) := by decide +kernel
theorem dL_law_348 : decode cL_law 348 = .ok (.iload_n 3, 1) := by decide +kernel
theorem dL_law_349 : decode cL_law 349 = .ok (.iconst 1, 1) := by decide +kernel
theorem dL_law_350 : decode cL_law 350 = .ok (.iadd, 1) := by decide +kernel
theorem dL_law_351 : decode cL_law 351 = .ok (.iaload, 1) := by decide +kernel
theorem dL_law_352 : decode cL_law 352 = .ok (.invokevirtual 31, 3) := by decide +kernel
theorem dL_law_355 : decode cL_law 355 = .ok (.if_icmp .eq 859, 3) := by decide +kernel
theorem dL_law_358 : decode cL_law 358 = .ok (.iconst 0, 1) := by decide +kernel
theorem dL_law_359 : decode cL_law 359 = .ok (.ireturn, 1) := by decide +kernel
theorem dL_law_360 : decode cL_law 360 = .ok (.aload_n 1, 1) := by decide +kernel
theorem dL_law_361 : decode cL_law 361 = .ok (.aload_n 0, 1) := by decide +kernel
theorem dL_law_362 : decode cL_law 362 = .ok (.iload_n 3, 1) := by decide +kernel
theorem dL_law_363 : decode cL_law 363 = .ok (.iconst 1, 1) := by decide +kernel
theorem dL_law_364 : decode cL_law 364 = .ok (.iadd, 1) := by decide +kernel
theorem dL_law_365 : decode cL_law 365 = .ok (.iaload, 1) := by decide +kernel
theorem dL_law_366 : decode cL_law 366 = .ok (.invokevirtual 32, 3) := by decide +kernel
theorem dL_law_369 : decode cL_law 369 = .ok (.aload_n 2, 1) := by decide +kernel
theorem dL_law_370 : decode cL_law 370 = .ok (.aload_n 0, 1) := by decide +kernel
theorem dL_law_371 : decode cL_law 371 = .ok (.iload_n 3, 1) := by decide +kernel
theorem dL_law_372 : decode cL_law 372 = .ok (.iconst 1, 1) := by decide +kernel
theorem dL_law_373 : decode cL_law 373 = .ok (.iadd, 1) := by decide +kernel
theorem dL_law_374 : decode cL_law 374 = .ok (.iaload, 1) := by decide +kernel
theorem dL_law_375 : decode cL_law 375 = .ok (.invokevirtual 35, 3) := by decide +kernel
theorem dL_law_378 : decode cL_law 378 = .ok (.if_icmp .eq 836, 3) := by decide +kernel
theorem dL_law_381 : decode cL_law 381 = .ok (.iconst 0, 1) := by decide +kernel
theorem dL_law_382 : decode cL_law 382 = .ok (.ireturn, 1) := by decide +kernel
theorem dL_law_383 : decode cL_law 383 = .ok (.aload_n 1, 1) := by decide +kernel
theorem dL_law_384 : decode cL_law 384 = .ok (.invokevirtual 36, 3) := by decide +kernel
theorem dL_law_387 : decode cL_law 387 = .ok (.aload_n 2, 1) := by decide +kernel
theorem dL_law_388 : decode cL_law 388 = .ok (.invokevirtual 40, 3) := by decide +kernel
theorem dL_law_391 : decode cL_law 391 = .ok (.if_icmp .eq 823, 3) := by decide +kernel
theorem dL_law_394 : decode cL_law 394 = .ok (.iconst 0, 1) := by decide +kernel
theorem dL_law_395 : decode cL_law 395 = .ok (.ireturn, 1) := by decide +kernel
theorem dL_law_396 : decode cL_law 396 = .ok (.aload_n 1, 1) := by decide +kernel
theorem dL_law_397 : decode cL_law 397 = .ok (.invokevirtual 41, 3) := by decide +kernel
theorem dL_law_400 : decode cL_law 400 = .ok (.aload_n 2, 1) := by decide +kernel
theorem dL_law_401 : decode cL_law 401 = .ok (.invokevirtual 44, 3) := by decide +kernel
theorem dL_law_404 : decode cL_law 404 = .ok (.if_icmp .eq 810, 3) := by decide +kernel
theorem dL_law_407 : decode cL_law 407 = .ok (.iconst 0, 1) := by decide +kernel
theorem dL_law_408 : decode cL_law 408 = .ok (.ireturn, 1) := by decide +kernel
theorem dL_law_409 : decode cL_law 409 = .ok (.aload_n 1, 1) := by decide +kernel
theorem dL_law_410 : decode cL_law 410 = .ok (.invokevirtual 45, 3) := by decide +kernel
theorem dL_law_413 : decode cL_law 413 = .ok (.aload_n 2, 1) := by decide +kernel
theorem dL_law_414 : decode cL_law 414 = .ok (.invokevirtual 48, 3) := by decide +kernel
theorem dL_law_417 : decode cL_law 417 = .ok (.if_icmp .eq 797, 3) := by decide +kernel
theorem dL_law_420 : decode cL_law 420 = .ok (.iconst 0, 1) := by decide +kernel
theorem dL_law_421 : decode cL_law 421 = .ok (.ireturn, 1) := by decide +kernel
theorem dL_law_422 : decode cL_law 422 = .ok (.aload_n 1, 1) := by decide +kernel
theorem dL_law_423 : decode cL_law 423 = .ok (.aload_n 0, 1) := by decide +kernel
theorem dL_law_424 : decode cL_law 424 = .ok (.iload_n 3, 1) := by decide +kernel
theorem dL_law_425 : decode cL_law 425 = .ok (.iconst 1, 1) := by decide +kernel
theorem dL_law_426 : decode cL_law 426 = .ok (.iadd, 1) := by decide +kernel
theorem dL_law_427 : decode cL_law 427 = .ok (.iaload, 1) := by decide +kernel
theorem dL_law_428 : decode cL_law 428 = .ok (.aload_n 0, 1) := by decide +kernel
theorem dL_law_429 : decode cL_law 429 = .ok (.iload_n 3, 1) := by decide +kernel
theorem dL_law_430 : decode cL_law 430 = .ok (.iconst 2, 1) := by decide +kernel
theorem dL_law_431 : decode cL_law 431 = .ok (.iadd, 1) := by decide +kernel
theorem dL_law_432 : decode cL_law 432 = .ok (.iaload, 1) := by decide +kernel
theorem dL_law_433 : decode cL_law 433 = .ok (.aload_n 0, 1) := by decide +kernel
theorem dL_law_434 : decode cL_law 434 = .ok (.iload_n 3, 1) := by decide +kernel
theorem dL_law_435 : decode cL_law 435 = .ok (.iconst 3, 1) := by decide +kernel
theorem dL_law_436 : decode cL_law 436 = .ok (.iadd, 1) := by decide +kernel
theorem dL_law_437 : decode cL_law 437 = .ok (.iaload, 1) := by decide +kernel
theorem dL_law_438 : decode cL_law 438 = .ok (.invokevirtual 49, 3) := by decide +kernel
theorem dL_law_441 : decode cL_law 441 = .ok (.aload_n 2, 1) := by decide +kernel
theorem dL_law_442 : decode cL_law 442 = .ok (.aload_n 0, 1) := by decide +kernel
theorem dL_law_443 : decode cL_law 443 = .ok (.iload_n 3, 1) := by decide +kernel
theorem dL_law_444 : decode cL_law 444 = .ok (.iconst 1, 1) := by decide +kernel
theorem dL_law_445 : decode cL_law 445 = .ok (.iadd, 1) := by decide +kernel
theorem dL_law_446 : decode cL_law 446 = .ok (.iaload, 1) := by decide +kernel
theorem dL_law_447 : decode cL_law 447 = .ok (.aload_n 0, 1) := by decide +kernel
theorem dL_law_448 : decode cL_law 448 = .ok (.iload_n 3, 1) := by decide +kernel
theorem dL_law_449 : decode cL_law 449 = .ok (.iconst 2, 1) := by decide +kernel
theorem dL_law_450 : decode cL_law 450 = .ok (.iadd, 1) := by decide +kernel
theorem dL_law_451 : decode cL_law 451 = .ok (.iaload, 1) := by decide +kernel
theorem dL_law_452 : decode cL_law 452 = .ok (.aload_n 0, 1) := by decide +kernel
theorem dL_law_453 : decode cL_law 453 = .ok (.iload_n 3, 1) := by decide +kernel
theorem dL_law_454 : decode cL_law 454 = .ok (.iconst 3, 1) := by decide +kernel
theorem dL_law_455 : decode cL_law 455 = .ok (.iadd, 1) := by decide +kernel
theorem dL_law_456 : decode cL_law 456 = .ok (.iaload, 1) := by decide +kernel
theorem dL_law_457 : decode cL_law 457 = .ok (.invokevirtual 52, 3) := by decide +kernel
theorem dL_law_460 : decode cL_law 460 = .ok (.if_icmp .eq 754, 3) := by decide +kernel
theorem dL_law_463 : decode cL_law 463 = .ok (.iconst 0, 1) := by decide +kernel
theorem dL_law_464 : decode cL_law 464 = .ok (.ireturn, 1) := by decide +kernel
theorem dL_law_465 : decode cL_law 465 = .ok (.aload_n 1, 1) := by decide +kernel
theorem dL_law_466 : decode cL_law 466 = .ok (.invokevirtual 53, 3) := by decide +kernel
theorem dL_law_469 : decode cL_law 469 = .ok (.aload_n 2, 1) := by decide +kernel
theorem dL_law_470 : decode cL_law 470 = .ok (.invokevirtual 56, 3) := by decide +kernel
theorem dL_law_473 : decode cL_law 473 = .ok (.if_icmp .eq 741, 3) := by decide +kernel
theorem dL_law_476 : decode cL_law 476 = .ok (.iconst 0, 1) := by decide +kernel
theorem dL_law_477 : decode cL_law 477 = .ok (.ireturn, 1) := by decide +kernel
theorem dL_law_478 : decode cL_law 478 = .ok (.aload_n 1, 1) := by decide +kernel
theorem dL_law_479 : decode cL_law 479 = .ok (.aload_n 0, 1) := by decide +kernel
theorem dL_law_480 : decode cL_law 480 = .ok (.iload_n 3, 1) := by decide +kernel
theorem dL_law_481 : decode cL_law 481 = .ok (.iconst 1, 1) := by decide +kernel
theorem dL_law_482 : decode cL_law 482 = .ok (.iadd, 1) := by decide +kernel
theorem dL_law_483 : decode cL_law 483 = .ok (.iaload, 1) := by decide +kernel
theorem dL_law_484 : decode cL_law 484 = .ok (.invokevirtual 57, 3) := by decide +kernel
theorem dL_law_487 : decode cL_law 487 = .ok (.aload_n 2, 1) := by decide +kernel
theorem dL_law_488 : decode cL_law 488 = .ok (.aload_n 0, 1) := by decide +kernel
theorem dL_law_489 : decode cL_law 489 = .ok (.iload_n 3, 1) := by decide +kernel
theorem dL_law_490 : decode cL_law 490 = .ok (.iconst 1, 1) := by decide +kernel
theorem dL_law_491 : decode cL_law 491 = .ok (.iadd, 1) := by decide +kernel
theorem dL_law_492 : decode cL_law 492 = .ok (.iaload, 1) := by decide +kernel
theorem dL_law_493 : decode cL_law 493 = .ok (.invokevirtual 60, 3) := by decide +kernel
theorem dL_law_496 : decode cL_law 496 = .ok (.if_icmp .eq 718, 3) := by decide +kernel
theorem dL_law_499 : decode cL_law 499 = .ok (.iconst 0, 1) := by decide +kernel
theorem dL_law_500 : decode cL_law 500 = .ok (.ireturn, 1) := by decide +kernel
theorem dL_law_501 : decode cL_law 501 = .ok (.aload_n 1, 1) := by decide +kernel
theorem dL_law_502 : decode cL_law 502 = .ok (.aload_n 0, 1) := by decide +kernel
theorem dL_law_503 : decode cL_law 503 = .ok (.iload_n 3, 1) := by decide +kernel
theorem dL_law_504 : decode cL_law 504 = .ok (.iconst 1, 1) := by decide +kernel
theorem dL_law_505 : decode cL_law 505 = .ok (.iadd, 1) := by decide +kernel
theorem dL_law_506 : decode cL_law 506 = .ok (.iaload, 1) := by decide +kernel
theorem dL_law_507 : decode cL_law 507 = .ok (.invokevirtual 61, 3) := by decide +kernel
theorem dL_law_510 : decode cL_law 510 = .ok (.aload_n 2, 1) := by decide +kernel
theorem dL_law_511 : decode cL_law 511 = .ok (.aload_n 0, 1) := by decide +kernel
theorem dL_law_512 : decode cL_law 512 = .ok (.iload_n 3, 1) := by decide +kernel
theorem dL_law_513 : decode cL_law 513 = .ok (.iconst 1, 1) := by decide +kernel
theorem dL_law_514 : decode cL_law 514 = .ok (.iadd, 1) := by decide +kernel
theorem dL_law_515 : decode cL_law 515 = .ok (.iaload, 1) := by decide +kernel
theorem dL_law_516 : decode cL_law 516 = .ok (.invokevirtual 64, 3) := by decide +kernel
theorem dL_law_519 : decode cL_law 519 = .ok (.if_icmp .eq 695, 3) := by decide +kernel
theorem dL_law_522 : decode cL_law 522 = .ok (.iconst 0, 1) := by decide +kernel
theorem dL_law_523 : decode cL_law 523 = .ok (.ireturn, 1) := by decide +kernel
theorem dL_law_524 : decode cL_law 524 = .ok (.aload_n 1, 1) := by decide +kernel
theorem dL_law_525 : decode cL_law 525 = .ok (.aload_n 0, 1) := by decide +kernel
theorem dL_law_526 : decode cL_law 526 = .ok (.iload_n 3, 1) := by decide +kernel
theorem dL_law_527 : decode cL_law 527 = .ok (.iconst 1, 1) := by decide +kernel
theorem dL_law_528 : decode cL_law 528 = .ok (.iadd, 1) := by decide +kernel
theorem dL_law_529 : decode cL_law 529 = .ok (.iaload, 1) := by decide +kernel
theorem dL_law_530 : decode cL_law 530 = .ok (.aload_n 0, 1) := by decide +kernel
theorem dL_law_531 : decode cL_law 531 = .ok (.iload_n 3, 1) := by decide +kernel
theorem dL_law_532 : decode cL_law 532 = .ok (.iconst 2, 1) := by decide +kernel
theorem dL_law_533 : decode cL_law 533 = .ok (.iadd, 1) := by decide +kernel
theorem dL_law_534 : decode cL_law 534 = .ok (.iaload, 1) := by decide +kernel
theorem dL_law_535 : decode cL_law 535 = .ok (.invokevirtual 65, 3) := by decide +kernel
theorem dL_law_538 : decode cL_law 538 = .ok (.aload_n 2, 1) := by decide +kernel
theorem dL_law_539 : decode cL_law 539 = .ok (.aload_n 0, 1) := by decide +kernel
theorem dL_law_540 : decode cL_law 540 = .ok (.iload_n 3, 1) := by decide +kernel
theorem dL_law_541 : decode cL_law 541 = .ok (.iconst 1, 1) := by decide +kernel
theorem dL_law_542 : decode cL_law 542 = .ok (.iadd, 1) := by decide +kernel
theorem dL_law_543 : decode cL_law 543 = .ok (.iaload, 1) := by decide +kernel
theorem dL_law_544 : decode cL_law 544 = .ok (.aload_n 0, 1) := by decide +kernel
theorem dL_law_545 : decode cL_law 545 = .ok (.iload_n 3, 1) := by decide +kernel
theorem dL_law_546 : decode cL_law 546 = .ok (.iconst 2, 1) := by decide +kernel
theorem dL_law_547 : decode cL_law 547 = .ok (.iadd, 1) := by decide +kernel
theorem dL_law_548 : decode cL_law 548 = .ok (.iaload, 1) := by decide +kernel
theorem dL_law_549 : decode cL_law 549 = .ok (.invokevirtual 69, 3) := by decide +kernel
theorem dL_law_552 : decode cL_law 552 = .ok (.if_icmp .eq 662, 3) := by decide +kernel
theorem dL_law_555 : decode cL_law 555 = .ok (.iconst 0, 1) := by decide +kernel
theorem dL_law_556 : decode cL_law 556 = .ok (.ireturn, 1) := by decide +kernel
theorem dL_law_557 : decode cL_law 557 = .ok (.aload_n 1, 1) := by decide +kernel
theorem dL_law_558 : decode cL_law 558 = .ok (.aload_n 0, 1) := by decide +kernel
theorem dL_law_559 : decode cL_law 559 = .ok (.iload_n 3, 1) := by decide +kernel
theorem dL_law_560 : decode cL_law 560 = .ok (.iconst 1, 1) := by decide +kernel
theorem dL_law_561 : decode cL_law 561 = .ok (.iadd, 1) := by decide +kernel
theorem dL_law_562 : decode cL_law 562 = .ok (.iaload, 1) := by decide +kernel
theorem dL_law_563 : decode cL_law 563 = .ok (.aload_n 0, 1) := by decide +kernel
theorem dL_law_564 : decode cL_law 564 = .ok (.iload_n 3, 1) := by decide +kernel
theorem dL_law_565 : decode cL_law 565 = .ok (.iconst 2, 1) := by decide +kernel
theorem dL_law_566 : decode cL_law 566 = .ok (.iadd, 1) := by decide +kernel
theorem dL_law_567 : decode cL_law 567 = .ok (.iaload, 1) := by decide +kernel
theorem dL_law_568 : decode cL_law 568 = .ok (.invokevirtual 70, 3) := by decide +kernel
theorem dL_law_571 : decode cL_law 571 = .ok (.aload_n 2, 1) := by decide +kernel
theorem dL_law_572 : decode cL_law 572 = .ok (.aload_n 0, 1) := by decide +kernel
theorem dL_law_573 : decode cL_law 573 = .ok (.iload_n 3, 1) := by decide +kernel
theorem dL_law_574 : decode cL_law 574 = .ok (.iconst 1, 1) := by decide +kernel
theorem dL_law_575 : decode cL_law 575 = .ok (.iadd, 1) := by decide +kernel
theorem dL_law_576 : decode cL_law 576 = .ok (.iaload, 1) := by decide +kernel
theorem dL_law_577 : decode cL_law 577 = .ok (.aload_n 0, 1) := by decide +kernel
theorem dL_law_578 : decode cL_law 578 = .ok (.iload_n 3, 1) := by decide +kernel
theorem dL_law_579 : decode cL_law 579 = .ok (.iconst 2, 1) := by decide +kernel
theorem dL_law_580 : decode cL_law 580 = .ok (.iadd, 1) := by decide +kernel
theorem dL_law_581 : decode cL_law 581 = .ok (.iaload, 1) := by decide +kernel
theorem dL_law_582 : decode cL_law 582 = .ok (.invokevirtual 73, 3) := by decide +kernel
theorem dL_law_585 : decode cL_law 585 = .ok (.if_icmp .eq 629, 3) := by decide +kernel
theorem dL_law_588 : decode cL_law 588 = .ok (.iconst 0, 1) := by decide +kernel
theorem dL_law_589 : decode cL_law 589 = .ok (.ireturn, 1) := by decide +kernel
theorem dL_law_590 : decode cL_law 590 = .ok (.aload_n 1, 1) := by decide +kernel
theorem dL_law_591 : decode cL_law 591 = .ok (.aload_n 0, 1) := by decide +kernel
theorem dL_law_592 : decode cL_law 592 = .ok (.iload_n 3, 1) := by decide +kernel
theorem dL_law_593 : decode cL_law 593 = .ok (.iconst 1, 1) := by decide +kernel
theorem dL_law_594 : decode cL_law 594 = .ok (.iadd, 1) := by decide +kernel
theorem dL_law_595 : decode cL_law 595 = .ok (.iaload, 1) := by decide +kernel
theorem dL_law_596 : decode cL_law 596 = .ok (.invokevirtual 74, 3) := by decide +kernel
theorem dL_law_599 : decode cL_law 599 = .ok (.aload_n 2, 1) := by decide +kernel
theorem dL_law_600 : decode cL_law 600 = .ok (.aload_n 0, 1) := by decide +kernel
theorem dL_law_601 : decode cL_law 601 = .ok (.iload_n 3, 1) := by decide +kernel
theorem dL_law_602 : decode cL_law 602 = .ok (.iconst 1, 1) := by decide +kernel
theorem dL_law_603 : decode cL_law 603 = .ok (.iadd, 1) := by decide +kernel
theorem dL_law_604 : decode cL_law 604 = .ok (.iaload, 1) := by decide +kernel
theorem dL_law_605 : decode cL_law 605 = .ok (.invokevirtual 77, 3) := by decide +kernel
theorem dL_law_608 : decode cL_law 608 = .ok (.if_icmp .eq 606, 3) := by decide +kernel
theorem dL_law_611 : decode cL_law 611 = .ok (.iconst 0, 1) := by decide +kernel
theorem dL_law_612 : decode cL_law 612 = .ok (.ireturn, 1) := by decide +kernel
theorem dL_law_613 : decode cL_law 613 = .ok (.aload_n 1, 1) := by decide +kernel
theorem dL_law_614 : decode cL_law 614 = .ok (.aload_n 0, 1) := by decide +kernel
theorem dL_law_615 : decode cL_law 615 = .ok (.iload_n 3, 1) := by decide +kernel
theorem dL_law_616 : decode cL_law 616 = .ok (.iconst 1, 1) := by decide +kernel
theorem dL_law_617 : decode cL_law 617 = .ok (.iadd, 1) := by decide +kernel
theorem dL_law_618 : decode cL_law 618 = .ok (.iaload, 1) := by decide +kernel
theorem dL_law_619 : decode cL_law 619 = .ok (.aload_n 0, 1) := by decide +kernel
theorem dL_law_620 : decode cL_law 620 = .ok (.iload_n 3, 1) := by decide +kernel
theorem dL_law_621 : decode cL_law 621 = .ok (.iconst 2, 1) := by decide +kernel
theorem dL_law_622 : decode cL_law 622 = .ok (.iadd, 1) := by decide +kernel
theorem dL_law_623 : decode cL_law 623 = .ok (.iaload, 1) := by decide +kernel
theorem dL_law_624 : decode cL_law 624 = .ok (.invokevirtual 78, 3) := by decide +kernel
theorem dL_law_627 : decode cL_law 627 = .ok (.aload_n 2, 1) := by decide +kernel
theorem dL_law_628 : decode cL_law 628 = .ok (.aload_n 0, 1) := by decide +kernel
theorem dL_law_629 : decode cL_law 629 = .ok (.iload_n 3, 1) := by decide +kernel
theorem dL_law_630 : decode cL_law 630 = .ok (.iconst 1, 1) := by decide +kernel
theorem dL_law_631 : decode cL_law 631 = .ok (.iadd, 1) := by decide +kernel
theorem dL_law_632 : decode cL_law 632 = .ok (.iaload, 1) := by decide +kernel
theorem dL_law_633 : decode cL_law 633 = .ok (.aload_n 0, 1) := by decide +kernel
theorem dL_law_634 : decode cL_law 634 = .ok (.iload_n 3, 1) := by decide +kernel
theorem dL_law_635 : decode cL_law 635 = .ok (.iconst 2, 1) := by decide +kernel
theorem dL_law_636 : decode cL_law 636 = .ok (.iadd, 1) := by decide +kernel
theorem dL_law_637 : decode cL_law 637 = .ok (.iaload, 1) := by decide +kernel
theorem dL_law_638 : decode cL_law 638 = .ok (.invokevirtual 81, 3) := by decide +kernel
theorem dL_law_641 : decode cL_law 641 = .ok (.if_icmp .eq 573, 3) := by decide +kernel
theorem dL_law_644 : decode cL_law 644 = .ok (.iconst 0, 1) := by decide +kernel
theorem dL_law_645 : decode cL_law 645 = .ok (.ireturn, 1) := by decide +kernel
theorem dL_law_646 : decode cL_law 646 = .ok (.aload_n 1, 1) := by decide +kernel
theorem dL_law_647 : decode cL_law 647 = .ok (.aload_n 0, 1) := by decide +kernel
theorem dL_law_648 : decode cL_law 648 = .ok (.iload_n 3, 1) := by decide +kernel
theorem dL_law_649 : decode cL_law 649 = .ok (.iconst 1, 1) := by decide +kernel
theorem dL_law_650 : decode cL_law 650 = .ok (.iadd, 1) := by decide +kernel
theorem dL_law_651 : decode cL_law 651 = .ok (.iaload, 1) := by decide +kernel
theorem dL_law_652 : decode cL_law 652 = .ok (.aload_n 0, 1) := by decide +kernel
theorem dL_law_653 : decode cL_law 653 = .ok (.iload_n 3, 1) := by decide +kernel
theorem dL_law_654 : decode cL_law 654 = .ok (.iconst 2, 1) := by decide +kernel
theorem dL_law_655 : decode cL_law 655 = .ok (.iadd, 1) := by decide +kernel
theorem dL_law_656 : decode cL_law 656 = .ok (.iaload, 1) := by decide +kernel
theorem dL_law_657 : decode cL_law 657 = .ok (.invokevirtual 82, 3) := by decide +kernel
theorem dL_law_660 : decode cL_law 660 = .ok (.aload_n 2, 1) := by decide +kernel
theorem dL_law_661 : decode cL_law 661 = .ok (.aload_n 0, 1) := by decide +kernel
theorem dL_law_662 : decode cL_law 662 = .ok (.iload_n 3, 1) := by decide +kernel
theorem dL_law_663 : decode cL_law 663 = .ok (.iconst 1, 1) := by decide +kernel
theorem dL_law_664 : decode cL_law 664 = .ok (.iadd, 1) := by decide +kernel
theorem dL_law_665 : decode cL_law 665 = .ok (.iaload, 1) := by decide +kernel
theorem dL_law_666 : decode cL_law 666 = .ok (.aload_n 0, 1) := by decide +kernel
theorem dL_law_667 : decode cL_law 667 = .ok (.iload_n 3, 1) := by decide +kernel
theorem dL_law_668 : decode cL_law 668 = .ok (.iconst 2, 1) := by decide +kernel
theorem dL_law_669 : decode cL_law 669 = .ok (.iadd, 1) := by decide +kernel
theorem dL_law_670 : decode cL_law 670 = .ok (.iaload, 1) := by decide +kernel
theorem dL_law_671 : decode cL_law 671 = .ok (.invokevirtual 85, 3) := by decide +kernel
theorem dL_law_674 : decode cL_law 674 = .ok (.if_icmp .eq 540, 3) := by decide +kernel
theorem dL_law_677 : decode cL_law 677 = .ok (.iconst 0, 1) := by decide +kernel
theorem dL_law_678 : decode cL_law 678 = .ok (.ireturn, 1) := by decide +kernel
theorem dL_law_679 : decode cL_law 679 = .ok (.aload_n 1, 1) := by decide +kernel
theorem dL_law_680 : decode cL_law 680 = .ok (.invokevirtual 86, 3) := by decide +kernel
theorem dL_law_683 : decode cL_law 683 = .ok (.aload_n 2, 1) := by decide +kernel
theorem dL_law_684 : decode cL_law 684 = .ok (.invokevirtual 89, 3) := by decide +kernel
theorem dL_law_687 : decode cL_law 687 = .ok (.if_icmp .eq 527, 3) := by decide +kernel
theorem dL_law_690 : decode cL_law 690 = .ok (.iconst 0, 1) := by decide +kernel
theorem dL_law_691 : decode cL_law 691 = .ok (.ireturn, 1) := by decide +kernel
theorem dL_law_692 : decode cL_law 692 = .ok (.aload_n 1, 1) := by decide +kernel
theorem dL_law_693 : decode cL_law 693 = .ok (.invokevirtual 90, 3) := by decide +kernel
theorem dL_law_696 : decode cL_law 696 = .ok (.aload_n 2, 1) := by decide +kernel
theorem dL_law_697 : decode cL_law 697 = .ok (.invokevirtual 93, 3) := by decide +kernel
theorem dL_law_700 : decode cL_law 700 = .ok (.if_icmp .eq 514, 3) := by decide +kernel
theorem dL_law_703 : decode cL_law 703 = .ok (.iconst 0, 1) := by decide +kernel
theorem dL_law_704 : decode cL_law 704 = .ok (.ireturn, 1) := by decide +kernel
theorem dL_law_705 : decode cL_law 705 = .ok (.aload_n 1, 1) := by decide +kernel
theorem dL_law_706 : decode cL_law 706 = .ok (.aload_n 0, 1) := by decide +kernel
theorem dL_law_707 : decode cL_law 707 = .ok (.iload_n 3, 1) := by decide +kernel
theorem dL_law_708 : decode cL_law 708 = .ok (.iconst 1, 1) := by decide +kernel
theorem dL_law_709 : decode cL_law 709 = .ok (.iadd, 1) := by decide +kernel
theorem dL_law_710 : decode cL_law 710 = .ok (.iaload, 1) := by decide +kernel
theorem dL_law_711 : decode cL_law 711 = .ok (.aload_n 0, 1) := by decide +kernel
theorem dL_law_712 : decode cL_law 712 = .ok (.iload_n 3, 1) := by decide +kernel
theorem dL_law_713 : decode cL_law 713 = .ok (.iconst 2, 1) := by decide +kernel
theorem dL_law_714 : decode cL_law 714 = .ok (.iadd, 1) := by decide +kernel
theorem dL_law_715 : decode cL_law 715 = .ok (.iaload, 1) := by decide +kernel
theorem dL_law_716 : decode cL_law 716 = .ok (.invokevirtual 94, 3) := by decide +kernel
theorem dL_law_719 : decode cL_law 719 = .ok (.aload_n 2, 1) := by decide +kernel
theorem dL_law_720 : decode cL_law 720 = .ok (.aload_n 0, 1) := by decide +kernel
theorem dL_law_721 : decode cL_law 721 = .ok (.iload_n 3, 1) := by decide +kernel
theorem dL_law_722 : decode cL_law 722 = .ok (.iconst 1, 1) := by decide +kernel
theorem dL_law_723 : decode cL_law 723 = .ok (.iadd, 1) := by decide +kernel
theorem dL_law_724 : decode cL_law 724 = .ok (.iaload, 1) := by decide +kernel
theorem dL_law_725 : decode cL_law 725 = .ok (.aload_n 0, 1) := by decide +kernel
theorem dL_law_726 : decode cL_law 726 = .ok (.iload_n 3, 1) := by decide +kernel
theorem dL_law_727 : decode cL_law 727 = .ok (.iconst 2, 1) := by decide +kernel
theorem dL_law_728 : decode cL_law 728 = .ok (.iadd, 1) := by decide +kernel
theorem dL_law_729 : decode cL_law 729 = .ok (.iaload, 1) := by decide +kernel
theorem dL_law_730 : decode cL_law 730 = .ok (.invokevirtual 97, 3) := by decide +kernel
theorem dL_law_733 : decode cL_law 733 = .ok (.if_icmp .eq 481, 3) := by decide +kernel
theorem dL_law_736 : decode cL_law 736 = .ok (.iconst 0, 1) := by decide +kernel
theorem dL_law_737 : decode cL_law 737 = .ok (.ireturn, 1) := by decide +kernel
theorem dL_law_738 : decode cL_law 738 = .ok (.aload_n 1, 1) := by decide +kernel
theorem dL_law_739 : decode cL_law 739 = .ok (.aload_n 0, 1) := by decide +kernel
theorem dL_law_740 : decode cL_law 740 = .ok (.iload_n 3, 1) := by decide +kernel
theorem dL_law_741 : decode cL_law 741 = .ok (.iconst 1, 1) := by decide +kernel
theorem dL_law_742 : decode cL_law 742 = .ok (.iadd, 1) := by decide +kernel
theorem dL_law_743 : decode cL_law 743 = .ok (.iaload, 1) := by decide +kernel
theorem dL_law_744 : decode cL_law 744 = .ok (.aload_n 0, 1) := by decide +kernel
theorem dL_law_745 : decode cL_law 745 = .ok (.iload_n 3, 1) := by decide +kernel
theorem dL_law_746 : decode cL_law 746 = .ok (.iconst 2, 1) := by decide +kernel
theorem dL_law_747 : decode cL_law 747 = .ok (.iadd, 1) := by decide +kernel
theorem dL_law_748 : decode cL_law 748 = .ok (.iaload, 1) := by decide +kernel
theorem dL_law_749 : decode cL_law 749 = .ok (.invokevirtual 98, 3) := by decide +kernel
theorem dL_law_752 : decode cL_law 752 = .ok (.aload_n 2, 1) := by decide +kernel
theorem dL_law_753 : decode cL_law 753 = .ok (.aload_n 0, 1) := by decide +kernel
theorem dL_law_754 : decode cL_law 754 = .ok (.iload_n 3, 1) := by decide +kernel
theorem dL_law_755 : decode cL_law 755 = .ok (.iconst 1, 1) := by decide +kernel
theorem dL_law_756 : decode cL_law 756 = .ok (.iadd, 1) := by decide +kernel
theorem dL_law_757 : decode cL_law 757 = .ok (.iaload, 1) := by decide +kernel
theorem dL_law_758 : decode cL_law 758 = .ok (.aload_n 0, 1) := by decide +kernel
theorem dL_law_759 : decode cL_law 759 = .ok (.iload_n 3, 1) := by decide +kernel
theorem dL_law_760 : decode cL_law 760 = .ok (.iconst 2, 1) := by decide +kernel
theorem dL_law_761 : decode cL_law 761 = .ok (.iadd, 1) := by decide +kernel
theorem dL_law_762 : decode cL_law 762 = .ok (.iaload, 1) := by decide +kernel
theorem dL_law_763 : decode cL_law 763 = .ok (.invokevirtual 101, 3) := by decide +kernel
theorem dL_law_766 : decode cL_law 766 = .ok (.if_icmp .eq 448, 3) := by decide +kernel
theorem dL_law_769 : decode cL_law 769 = .ok (.iconst 0, 1) := by decide +kernel
theorem dL_law_770 : decode cL_law 770 = .ok (.ireturn, 1) := by decide +kernel
theorem dL_law_771 : decode cL_law 771 = .ok (.aload_n 1, 1) := by decide +kernel
theorem dL_law_772 : decode cL_law 772 = .ok (.aload_n 0, 1) := by decide +kernel
theorem dL_law_773 : decode cL_law 773 = .ok (.iload_n 3, 1) := by decide +kernel
theorem dL_law_774 : decode cL_law 774 = .ok (.iconst 1, 1) := by decide +kernel
theorem dL_law_775 : decode cL_law 775 = .ok (.iadd, 1) := by decide +kernel
theorem dL_law_776 : decode cL_law 776 = .ok (.iaload, 1) := by decide +kernel
theorem dL_law_777 : decode cL_law 777 = .ok (.invokevirtual 102, 3) := by decide +kernel
theorem dL_law_780 : decode cL_law 780 = .ok (.aload_n 2, 1) := by decide +kernel
theorem dL_law_781 : decode cL_law 781 = .ok (.aload_n 0, 1) := by decide +kernel
theorem dL_law_782 : decode cL_law 782 = .ok (.iload_n 3, 1) := by decide +kernel
theorem dL_law_783 : decode cL_law 783 = .ok (.iconst 1, 1) := by decide +kernel
theorem dL_law_784 : decode cL_law 784 = .ok (.iadd, 1) := by decide +kernel
theorem dL_law_785 : decode cL_law 785 = .ok (.iaload, 1) := by decide +kernel
theorem dL_law_786 : decode cL_law 786 = .ok (.invokevirtual 105, 3) := by decide +kernel
theorem dL_law_789 : decode cL_law 789 = .ok (.if_icmp .eq 425, 3) := by decide +kernel
theorem dL_law_792 : decode cL_law 792 = .ok (.iconst 0, 1) := by decide +kernel
theorem dL_law_793 : decode cL_law 793 = .ok (.ireturn, 1) := by decide +kernel
theorem dL_law_794 : decode cL_law 794 = .ok (.aload_n 1, 1) := by decide +kernel
theorem dL_law_795 : decode cL_law 795 = .ok (.aload_n 0, 1) := by decide +kernel
theorem dL_law_796 : decode cL_law 796 = .ok (.iload_n 3, 1) := by decide +kernel
theorem dL_law_797 : decode cL_law 797 = .ok (.iconst 1, 1) := by decide +kernel
theorem dL_law_798 : decode cL_law 798 = .ok (.iadd, 1) := by decide +kernel
theorem dL_law_799 : decode cL_law 799 = .ok (.iaload, 1) := by decide +kernel
theorem dL_law_800 : decode cL_law 800 = .ok (.aload_n 0, 1) := by decide +kernel
theorem dL_law_801 : decode cL_law 801 = .ok (.iload_n 3, 1) := by decide +kernel
theorem dL_law_802 : decode cL_law 802 = .ok (.iconst 2, 1) := by decide +kernel
theorem dL_law_803 : decode cL_law 803 = .ok (.iadd, 1) := by decide +kernel
theorem dL_law_804 : decode cL_law 804 = .ok (.iaload, 1) := by decide +kernel
theorem dL_law_805 : decode cL_law 805 = .ok (.aload_n 0, 1) := by decide +kernel
theorem dL_law_806 : decode cL_law 806 = .ok (.iload_n 3, 1) := by decide +kernel
theorem dL_law_807 : decode cL_law 807 = .ok (.iconst 3, 1) := by decide +kernel
theorem dL_law_808 : decode cL_law 808 = .ok (.iadd, 1) := by decide +kernel
theorem dL_law_809 : decode cL_law 809 = .ok (.iaload, 1) := by decide +kernel
theorem dL_law_810 : decode cL_law 810 = .ok (.aload_n 0, 1) := by decide +kernel
theorem dL_law_811 : decode cL_law 811 = .ok (.iload_n 3, 1) := by decide +kernel
theorem dL_law_812 : decode cL_law 812 = .ok (.iconst 4, 1) := by decide +kernel
theorem dL_law_813 : decode cL_law 813 = .ok (.iadd, 1) := by decide +kernel
theorem dL_law_814 : decode cL_law 814 = .ok (.iaload, 1) := by decide +kernel
theorem dL_law_815 : decode cL_law 815 = .ok (.aload_n 0, 1) := by decide +kernel
theorem dL_law_816 : decode cL_law 816 = .ok (.iload_n 3, 1) := by decide +kernel
theorem dL_law_817 : decode cL_law 817 = .ok (.iconst 5, 1) := by decide +kernel
theorem dL_law_818 : decode cL_law 818 = .ok (.iadd, 1) := by decide +kernel
theorem dL_law_819 : decode cL_law 819 = .ok (.iaload, 1) := by decide +kernel
theorem dL_law_820 : decode cL_law 820 = .ok (.invokevirtual 106, 3) := by decide +kernel
theorem dL_law_823 : decode cL_law 823 = .ok (.aload_n 2, 1) := by decide +kernel
theorem dL_law_824 : decode cL_law 824 = .ok (.aload_n 0, 1) := by decide +kernel
theorem dL_law_825 : decode cL_law 825 = .ok (.iload_n 3, 1) := by decide +kernel
theorem dL_law_826 : decode cL_law 826 = .ok (.iconst 1, 1) := by decide +kernel
theorem dL_law_827 : decode cL_law 827 = .ok (.iadd, 1) := by decide +kernel
theorem dL_law_828 : decode cL_law 828 = .ok (.iaload, 1) := by decide +kernel
theorem dL_law_829 : decode cL_law 829 = .ok (.aload_n 0, 1) := by decide +kernel
theorem dL_law_830 : decode cL_law 830 = .ok (.iload_n 3, 1) := by decide +kernel
theorem dL_law_831 : decode cL_law 831 = .ok (.iconst 2, 1) := by decide +kernel
theorem dL_law_832 : decode cL_law 832 = .ok (.iadd, 1) := by decide +kernel
theorem dL_law_833 : decode cL_law 833 = .ok (.iaload, 1) := by decide +kernel
theorem dL_law_834 : decode cL_law 834 = .ok (.aload_n 0, 1) := by decide +kernel
theorem dL_law_835 : decode cL_law 835 = .ok (.iload_n 3, 1) := by decide +kernel
theorem dL_law_836 : decode cL_law 836 = .ok (.iconst 3, 1) := by decide +kernel
theorem dL_law_837 : decode cL_law 837 = .ok (.iadd, 1) := by decide +kernel
theorem dL_law_838 : decode cL_law 838 = .ok (.iaload, 1) := by decide +kernel
theorem dL_law_839 : decode cL_law 839 = .ok (.aload_n 0, 1) := by decide +kernel
theorem dL_law_840 : decode cL_law 840 = .ok (.iload_n 3, 1) := by decide +kernel
theorem dL_law_841 : decode cL_law 841 = .ok (.iconst 4, 1) := by decide +kernel
theorem dL_law_842 : decode cL_law 842 = .ok (.iadd, 1) := by decide +kernel
theorem dL_law_843 : decode cL_law 843 = .ok (.iaload, 1) := by decide +kernel
theorem dL_law_844 : decode cL_law 844 = .ok (.aload_n 0, 1) := by decide +kernel
theorem dL_law_845 : decode cL_law 845 = .ok (.iload_n 3, 1) := by decide +kernel
theorem dL_law_846 : decode cL_law 846 = .ok (.iconst 5, 1) := by decide +kernel
theorem dL_law_847 : decode cL_law 847 = .ok (.iadd, 1) := by decide +kernel
theorem dL_law_848 : decode cL_law 848 = .ok (.iaload, 1) := by decide +kernel
theorem dL_law_849 : decode cL_law 849 = .ok (.invokevirtual 109, 3) := by decide +kernel
theorem dL_law_852 : decode cL_law 852 = .ok (.if_icmp .eq 362, 3) := by decide +kernel
theorem dL_law_855 : decode cL_law 855 = .ok (.iconst 0, 1) := by decide +kernel
theorem dL_law_856 : decode cL_law 856 = .ok (.ireturn, 1) := by decide +kernel
theorem dL_law_857 : decode cL_law 857 = .ok (.aload_n 1, 1) := by decide +kernel
theorem dL_law_858 : decode cL_law 858 = .ok (.aload_n 0, 1) := by decide +kernel
theorem dL_law_859 : decode cL_law 859 = .ok (.iload_n 3, 1) := by decide +kernel
theorem dL_law_860 : decode cL_law 860 = .ok (.iconst 1, 1) := by decide +kernel
theorem dL_law_861 : decode cL_law 861 = .ok (.iadd, 1) := by decide +kernel
theorem dL_law_862 : decode cL_law 862 = .ok (.iaload, 1) := by decide +kernel
theorem dL_law_863 : decode cL_law 863 = .ok (.aload_n 0, 1) := by decide +kernel
theorem dL_law_864 : decode cL_law 864 = .ok (.iload_n 3, 1) := by decide +kernel
theorem dL_law_865 : decode cL_law 865 = .ok (.iconst 2, 1) := by decide +kernel
theorem dL_law_866 : decode cL_law 866 = .ok (.iadd, 1) := by decide +kernel
theorem dL_law_867 : decode cL_law 867 = .ok (.iaload, 1) := by decide +kernel
theorem dL_law_868 : decode cL_law 868 = .ok (.invokevirtual 110, 3) := by decide +kernel
theorem dL_law_871 : decode cL_law 871 = .ok (.aload_n 2, 1) := by decide +kernel
theorem dL_law_872 : decode cL_law 872 = .ok (.aload_n 0, 1) := by decide +kernel
theorem dL_law_873 : decode cL_law 873 = .ok (.iload_n 3, 1) := by decide +kernel
theorem dL_law_874 : decode cL_law 874 = .ok (.iconst 1, 1) := by decide +kernel
theorem dL_law_875 : decode cL_law 875 = .ok (.iadd, 1) := by decide +kernel
theorem dL_law_876 : decode cL_law 876 = .ok (.iaload, 1) := by decide +kernel
theorem dL_law_877 : decode cL_law 877 = .ok (.aload_n 0, 1) := by decide +kernel
theorem dL_law_878 : decode cL_law 878 = .ok (.iload_n 3, 1) := by decide +kernel
theorem dL_law_879 : decode cL_law 879 = .ok (.iconst 2, 1) := by decide +kernel
theorem dL_law_880 : decode cL_law 880 = .ok (.iadd, 1) := by decide +kernel
theorem dL_law_881 : decode cL_law 881 = .ok (.iaload, 1) := by decide +kernel
theorem dL_law_882 : decode cL_law 882 = .ok (.invokevirtual 113, 3) := by decide +kernel
theorem dL_law_885 : decode cL_law 885 = .ok (.if_icmp .eq 329, 3) := by decide +kernel
theorem dL_law_888 : decode cL_law 888 = .ok (.iconst 0, 1) := by decide +kernel
theorem dL_law_889 : decode cL_law 889 = .ok (.ireturn, 1) := by decide +kernel
theorem dL_law_890 : decode cL_law 890 = .ok (.aload_n 1, 1) := by decide +kernel
theorem dL_law_891 : decode cL_law 891 = .ok (.aload_n 0, 1) := by decide +kernel
theorem dL_law_892 : decode cL_law 892 = .ok (.iload_n 3, 1) := by decide +kernel
theorem dL_law_893 : decode cL_law 893 = .ok (.iconst 1, 1) := by decide +kernel
theorem dL_law_894 : decode cL_law 894 = .ok (.iadd, 1) := by decide +kernel
theorem dL_law_895 : decode cL_law 895 = .ok (.iaload, 1) := by decide +kernel
theorem dL_law_896 : decode cL_law 896 = .ok (.aload_n 0, 1) := by decide +kernel
theorem dL_law_897 : decode cL_law 897 = .ok (.iload_n 3, 1) := by decide +kernel
theorem dL_law_898 : decode cL_law 898 = .ok (.iconst 2, 1) := by decide +kernel
theorem dL_law_899 : decode cL_law 899 = .ok (.iadd, 1) := by decide +kernel
theorem dL_law_900 : decode cL_law 900 = .ok (.iaload, 1) := by decide +kernel
theorem dL_law_901 : decode cL_law 901 = .ok (.aload_n 0, 1) := by decide +kernel
theorem dL_law_902 : decode cL_law 902 = .ok (.iload_n 3, 1) := by decide +kernel
theorem dL_law_903 : decode cL_law 903 = .ok (.iconst 3, 1) := by decide +kernel
theorem dL_law_904 : decode cL_law 904 = .ok (.iadd, 1) := by decide +kernel
theorem dL_law_905 : decode cL_law 905 = .ok (.iaload, 1) := by decide +kernel
theorem dL_law_906 : decode cL_law 906 = .ok (.invokevirtual 114, 3) := by decide +kernel
theorem dL_law_909 : decode cL_law 909 = .ok (.aload_n 2, 1) := by decide +kernel
theorem dL_law_910 : decode cL_law 910 = .ok (.aload_n 0, 1) := by decide +kernel
theorem dL_law_911 : decode cL_law 911 = .ok (.iload_n 3, 1) := by decide +kernel
theorem dL_law_912 : decode cL_law 912 = .ok (.iconst 1, 1) := by decide +kernel
theorem dL_law_913 : decode cL_law 913 = .ok (.iadd, 1) := by decide +kernel
theorem dL_law_914 : decode cL_law 914 = .ok (.iaload, 1) := by decide +kernel
theorem dL_law_915 : decode cL_law 915 = .ok (.aload_n 0, 1) := by decide +kernel
theorem dL_law_916 : decode cL_law 916 = .ok (.iload_n 3, 1) := by decide +kernel
theorem dL_law_917 : decode cL_law 917 = .ok (.iconst 2, 1) := by decide +kernel
theorem dL_law_918 : decode cL_law 918 = .ok (.iadd, 1) := by decide +kernel
theorem dL_law_919 : decode cL_law 919 = .ok (.iaload, 1) := by decide +kernel
theorem dL_law_920 : decode cL_law 920 = .ok (.aload_n 0, 1) := by decide +kernel
theorem dL_law_921 : decode cL_law 921 = .ok (.iload_n 3, 1) := by decide +kernel
theorem dL_law_922 : decode cL_law 922 = .ok (.iconst 3, 1) := by decide +kernel
theorem dL_law_923 : decode cL_law 923 = .ok (.iadd, 1) := by decide +kernel
theorem dL_law_924 : decode cL_law 924 = .ok (.iaload, 1) := by decide +kernel
theorem dL_law_925 : decode cL_law 925 = .ok (.invokevirtual 117, 3) := by decide +kernel
theorem dL_law_928 : decode cL_law 928 = .ok (.if_icmp .eq 286, 3) := by decide +kernel
theorem dL_law_931 : decode cL_law 931 = .ok (.iconst 0, 1) := by decide +kernel
theorem dL_law_932 : decode cL_law 932 = .ok (.ireturn, 1) := by decide +kernel
theorem dL_law_933 : decode cL_law 933 = .ok (.aload_n 1, 1) := by decide +kernel
theorem dL_law_934 : decode cL_law 934 = .ok (.aload_n 0, 1) := by decide +kernel
theorem dL_law_935 : decode cL_law 935 = .ok (.iload_n 3, 1) := by decide +kernel
theorem dL_law_936 : decode cL_law 936 = .ok (.iconst 1, 1) := by decide +kernel
theorem dL_law_937 : decode cL_law 937 = .ok (.iadd, 1) := by decide +kernel
theorem dL_law_938 : decode cL_law 938 = .ok (.iaload, 1) := by decide +kernel
theorem dL_law_939 : decode cL_law 939 = .ok (.aload_n 0, 1) := by decide +kernel
theorem dL_law_940 : decode cL_law 940 = .ok (.iload_n 3, 1) := by decide +kernel
theorem dL_law_941 : decode cL_law 941 = .ok (.iconst 2, 1) := by decide +kernel
theorem dL_law_942 : decode cL_law 942 = .ok (.iadd, 1) := by decide +kernel
theorem dL_law_943 : decode cL_law 943 = .ok (.iaload, 1) := by decide +kernel
theorem dL_law_944 : decode cL_law 944 = .ok (.aload_n 0, 1) := by decide +kernel
theorem dL_law_945 : decode cL_law 945 = .ok (.iload_n 3, 1) := by decide +kernel
theorem dL_law_946 : decode cL_law 946 = .ok (.iconst 3, 1) := by decide +kernel
theorem dL_law_947 : decode cL_law 947 = .ok (.iadd, 1) := by decide +kernel
theorem dL_law_948 : decode cL_law 948 = .ok (.iaload, 1) := by decide +kernel
theorem dL_law_949 : decode cL_law 949 = .ok (.invokevirtual 118, 3) := by decide +kernel
theorem dL_law_952 : decode cL_law 952 = .ok (.aload_n 2, 1) := by decide +kernel
theorem dL_law_953 : decode cL_law 953 = .ok (.aload_n 0, 1) := by decide +kernel
theorem dL_law_954 : decode cL_law 954 = .ok (.iload_n 3, 1) := by decide +kernel
theorem dL_law_955 : decode cL_law 955 = .ok (.iconst 1, 1) := by decide +kernel
theorem dL_law_956 : decode cL_law 956 = .ok (.iadd, 1) := by decide +kernel
theorem dL_law_957 : decode cL_law 957 = .ok (.iaload, 1) := by decide +kernel
theorem dL_law_958 : decode cL_law 958 = .ok (.aload_n 0, 1) := by decide +kernel
theorem dL_law_959 : decode cL_law 959 = .ok (.iload_n 3, 1) := by decide +kernel
theorem dL_law_960 : decode cL_law 960 = .ok (.iconst 2, 1) := by decide +kernel
theorem dL_law_961 : decode cL_law 961 = .ok (.iadd, 1) := by decide +kernel
theorem dL_law_962 : decode cL_law 962 = .ok (.iaload, 1) := by decide +kernel
theorem dL_law_963 : decode cL_law 963 = .ok (.aload_n 0, 1) := by decide +kernel
theorem dL_law_964 : decode cL_law 964 = .ok (.iload_n 3, 1) := by decide +kernel
theorem dL_law_965 : decode cL_law 965 = .ok (.iconst 3, 1) := by decide +kernel
theorem dL_law_966 : decode cL_law 966 = .ok (.iadd, 1) := by decide +kernel
theorem dL_law_967 : decode cL_law 967 = .ok (.iaload, 1) := by decide +kernel
theorem dL_law_968 : decode cL_law 968 = .ok (.invokevirtual 122, 3) := by decide +kernel
theorem dL_law_971 : decode cL_law 971 = .ok (.lcmp, 1) := by decide +kernel
theorem dL_law_972 : decode cL_law 972 = .ok (.ifCond .eq 242, 3) := by decide +kernel
theorem dL_law_975 : decode cL_law 975 = .ok (.iconst 0, 1) := by decide +kernel
theorem dL_law_976 : decode cL_law 976 = .ok (.ireturn, 1) := by decide +kernel
theorem dL_law_977 : decode cL_law 977 = .ok (.aload_n 1, 1) := by decide +kernel
theorem dL_law_978 : decode cL_law 978 = .ok (.aload_n 0, 1) := by decide +kernel
theorem dL_law_979 : decode cL_law 979 = .ok (.iload_n 3, 1) := by decide +kernel
theorem dL_law_980 : decode cL_law 980 = .ok (.iconst 1, 1) := by decide +kernel
theorem dL_law_981 : decode cL_law 981 = .ok (.iadd, 1) := by decide +kernel
theorem dL_law_982 : decode cL_law 982 = .ok (.iaload, 1) := by decide +kernel
theorem dL_law_983 : decode cL_law 983 = .ok (.aload_n 0, 1) := by decide +kernel
theorem dL_law_984 : decode cL_law 984 = .ok (.iload_n 3, 1) := by decide +kernel
theorem dL_law_985 : decode cL_law 985 = .ok (.iconst 2, 1) := by decide +kernel
theorem dL_law_986 : decode cL_law 986 = .ok (.iadd, 1) := by decide +kernel
theorem dL_law_987 : decode cL_law 987 = .ok (.iaload, 1) := by decide +kernel
theorem dL_law_988 : decode cL_law 988 = .ok (.aload_n 0, 1) := by decide +kernel
theorem dL_law_989 : decode cL_law 989 = .ok (.iload_n 3, 1) := by decide +kernel
theorem dL_law_990 : decode cL_law 990 = .ok (.iconst 3, 1) := by decide +kernel
theorem dL_law_991 : decode cL_law 991 = .ok (.iadd, 1) := by decide +kernel
theorem dL_law_992 : decode cL_law 992 = .ok (.iaload, 1) := by decide +kernel
theorem dL_law_993 : decode cL_law 993 = .ok (.invokevirtual 123, 3) := by decide +kernel
theorem dL_law_996 : decode cL_law 996 = .ok (.aload_n 2, 1) := by decide +kernel
theorem dL_law_997 : decode cL_law 997 = .ok (.aload_n 0, 1) := by decide +kernel
theorem dL_law_998 : decode cL_law 998 = .ok (.iload_n 3, 1) := by decide +kernel
theorem dL_law_999 : decode cL_law 999 = .ok (.iconst 1, 1) := by decide +kernel
theorem dL_law_1000 : decode cL_law 1000 = .ok (.iadd, 1) := by decide +kernel
theorem dL_law_1001 : decode cL_law 1001 = .ok (.iaload, 1) := by decide +kernel
theorem dL_law_1002 : decode cL_law 1002 = .ok (.aload_n 0, 1) := by decide +kernel
theorem dL_law_1003 : decode cL_law 1003 = .ok (.iload_n 3, 1) := by decide +kernel
theorem dL_law_1004 : decode cL_law 1004 = .ok (.iconst 2, 1) := by decide +kernel
theorem dL_law_1005 : decode cL_law 1005 = .ok (.iadd, 1) := by decide +kernel
theorem dL_law_1006 : decode cL_law 1006 = .ok (.iaload, 1) := by decide +kernel
theorem dL_law_1007 : decode cL_law 1007 = .ok (.aload_n 0, 1) := by decide +kernel
theorem dL_law_1008 : decode cL_law 1008 = .ok (.iload_n 3, 1) := by decide +kernel
theorem dL_law_1009 : decode cL_law 1009 = .ok (.iconst 3, 1) := by decide +kernel
theorem dL_law_1010 : decode cL_law 1010 = .ok (.iadd, 1) := by decide +kernel
theorem dL_law_1011 : decode cL_law 1011 = .ok (.iaload, 1) := by decide +kernel
theorem dL_law_1012 : decode cL_law 1012 = .ok (.invokevirtual 126, 3) := by decide +kernel
theorem dL_law_1015 : decode cL_law 1015 = .ok (.if_icmp .eq 199, 3) := by decide +kernel
theorem dL_law_1018 : decode cL_law 1018 = .ok (.iconst 0, 1) := by decide +kernel
theorem dL_law_1019 : decode cL_law 1019 = .ok (.ireturn, 1) := by decide +kernel
theorem dL_law_1020 : decode cL_law 1020 = .ok (.aload_n 1, 1) := by decide +kernel
theorem dL_law_1021 : decode cL_law 1021 = .ok (.aload_n 0, 1) := by decide +kernel
theorem dL_law_1022 : decode cL_law 1022 = .ok (.iload_n 3, 1) := by decide +kernel
theorem dL_law_1023 : decode cL_law 1023 = .ok (.iconst 1, 1) := by decide +kernel
theorem dL_law_1024 : decode cL_law 1024 = .ok (.iadd, 1) := by decide +kernel
theorem dL_law_1025 : decode cL_law 1025 = .ok (.iaload, 1) := by decide +kernel
theorem dL_law_1026 : decode cL_law 1026 = .ok (.invokevirtual 127, 3) := by decide +kernel
theorem dL_law_1029 : decode cL_law 1029 = .ok (.aload_n 2, 1) := by decide +kernel
theorem dL_law_1030 : decode cL_law 1030 = .ok (.aload_n 0, 1) := by decide +kernel
theorem dL_law_1031 : decode cL_law 1031 = .ok (.iload_n 3, 1) := by decide +kernel
theorem dL_law_1032 : decode cL_law 1032 = .ok (.iconst 1, 1) := by decide +kernel
theorem dL_law_1033 : decode cL_law 1033 = .ok (.iadd, 1) := by decide +kernel
theorem dL_law_1034 : decode cL_law 1034 = .ok (.iaload, 1) := by decide +kernel
theorem dL_law_1035 : decode cL_law 1035 = .ok (.invokevirtual 130, 3) := by decide +kernel
theorem dL_law_1038 : decode cL_law 1038 = .ok (.if_icmp .eq 176, 3) := by decide +kernel
theorem dL_law_1041 : decode cL_law 1041 = .ok (.iconst 0, 1) := by decide +kernel
theorem dL_law_1042 : decode cL_law 1042 = .ok (.ireturn, 1) := by decide +kernel
theorem dL_law_1043 : decode cL_law 1043 = .ok (.aload_n 1, 1) := by decide +kernel
theorem dL_law_1044 : decode cL_law 1044 = .ok (.aload_n 0, 1) := by decide +kernel
theorem dL_law_1045 : decode cL_law 1045 = .ok (.iload_n 3, 1) := by decide +kernel
theorem dL_law_1046 : decode cL_law 1046 = .ok (.iconst 1, 1) := by decide +kernel
theorem dL_law_1047 : decode cL_law 1047 = .ok (.iadd, 1) := by decide +kernel
theorem dL_law_1048 : decode cL_law 1048 = .ok (.iaload, 1) := by decide +kernel
theorem dL_law_1049 : decode cL_law 1049 = .ok (.invokevirtual 131, 3) := by decide +kernel
theorem dL_law_1052 : decode cL_law 1052 = .ok (.aload_n 2, 1) := by decide +kernel
theorem dL_law_1053 : decode cL_law 1053 = .ok (.aload_n 0, 1) := by decide +kernel
theorem dL_law_1054 : decode cL_law 1054 = .ok (.iload_n 3, 1) := by decide +kernel
theorem dL_law_1055 : decode cL_law 1055 = .ok (.iconst 1, 1) := by decide +kernel
theorem dL_law_1056 : decode cL_law 1056 = .ok (.iadd, 1) := by decide +kernel
theorem dL_law_1057 : decode cL_law 1057 = .ok (.iaload, 1) := by decide +kernel
theorem dL_law_1058 : decode cL_law 1058 = .ok (.invokevirtual 134, 3) := by decide +kernel
theorem dL_law_1061 : decode cL_law 1061 = .ok (.if_icmp .eq 153, 3) := by decide +kernel
theorem dL_law_1064 : decode cL_law 1064 = .ok (.iconst 0, 1) := by decide +kernel
theorem dL_law_1065 : decode cL_law 1065 = .ok (.ireturn, 1) := by decide +kernel
theorem dL_law_1066 : decode cL_law 1066 = .ok (.aload_n 1, 1) := by decide +kernel
theorem dL_law_1067 : decode cL_law 1067 = .ok (.aload_n 0, 1) := by decide +kernel
theorem dL_law_1068 : decode cL_law 1068 = .ok (.iload_n 3, 1) := by decide +kernel
theorem dL_law_1069 : decode cL_law 1069 = .ok (.iconst 1, 1) := by decide +kernel
theorem dL_law_1070 : decode cL_law 1070 = .ok (.iadd, 1) := by decide +kernel
theorem dL_law_1071 : decode cL_law 1071 = .ok (.iaload, 1) := by decide +kernel
theorem dL_law_1072 : decode cL_law 1072 = .ok (.invokevirtual 135, 3) := by decide +kernel
theorem dL_law_1075 : decode cL_law 1075 = .ok (.aload_n 2, 1) := by decide +kernel
theorem dL_law_1076 : decode cL_law 1076 = .ok (.aload_n 0, 1) := by decide +kernel
theorem dL_law_1077 : decode cL_law 1077 = .ok (.iload_n 3, 1) := by decide +kernel
theorem dL_law_1078 : decode cL_law 1078 = .ok (.iconst 1, 1) := by decide +kernel
theorem dL_law_1079 : decode cL_law 1079 = .ok (.iadd, 1) := by decide +kernel
theorem dL_law_1080 : decode cL_law 1080 = .ok (.iaload, 1) := by decide +kernel
theorem dL_law_1081 : decode cL_law 1081 = .ok (.invokevirtual 138, 3) := by decide +kernel
theorem dL_law_1084 : decode cL_law 1084 = .ok (.if_icmp .eq 130, 3) := by decide +kernel
theorem dL_law_1087 : decode cL_law 1087 = .ok (.iconst 0, 1) := by decide +kernel
theorem dL_law_1088 : decode cL_law 1088 = .ok (.ireturn, 1) := by decide +kernel
theorem dL_law_1089 : decode cL_law 1089 = .ok (.aload_n 1, 1) := by decide +kernel
theorem dL_law_1090 : decode cL_law 1090 = .ok (.aload_n 0, 1) := by decide +kernel
theorem dL_law_1091 : decode cL_law 1091 = .ok (.iload_n 3, 1) := by decide +kernel
theorem dL_law_1092 : decode cL_law 1092 = .ok (.iconst 1, 1) := by decide +kernel
theorem dL_law_1093 : decode cL_law 1093 = .ok (.iadd, 1) := by decide +kernel
theorem dL_law_1094 : decode cL_law 1094 = .ok (.iaload, 1) := by decide +kernel
theorem dL_law_1095 : decode cL_law 1095 = .ok (.aload_n 0, 1) := by decide +kernel
theorem dL_law_1096 : decode cL_law 1096 = .ok (.iload_n 3, 1) := by decide +kernel
theorem dL_law_1097 : decode cL_law 1097 = .ok (.iconst 2, 1) := by decide +kernel
theorem dL_law_1098 : decode cL_law 1098 = .ok (.iadd, 1) := by decide +kernel
theorem dL_law_1099 : decode cL_law 1099 = .ok (.iaload, 1) := by decide +kernel
theorem dL_law_1100 : decode cL_law 1100 = .ok (.invokevirtual 139, 3) := by decide +kernel
theorem dL_law_1103 : decode cL_law 1103 = .ok (.aload_n 2, 1) := by decide +kernel
theorem dL_law_1104 : decode cL_law 1104 = .ok (.aload_n 0, 1) := by decide +kernel
theorem dL_law_1105 : decode cL_law 1105 = .ok (.iload_n 3, 1) := by decide +kernel
theorem dL_law_1106 : decode cL_law 1106 = .ok (.iconst 1, 1) := by decide +kernel
theorem dL_law_1107 : decode cL_law 1107 = .ok (.iadd, 1) := by decide +kernel
theorem dL_law_1108 : decode cL_law 1108 = .ok (.iaload, 1) := by decide +kernel
theorem dL_law_1109 : decode cL_law 1109 = .ok (.aload_n 0, 1) := by decide +kernel
theorem dL_law_1110 : decode cL_law 1110 = .ok (.iload_n 3, 1) := by decide +kernel
theorem dL_law_1111 : decode cL_law 1111 = .ok (.iconst 2, 1) := by decide +kernel
theorem dL_law_1112 : decode cL_law 1112 = .ok (.iadd, 1) := by decide +kernel
theorem dL_law_1113 : decode cL_law 1113 = .ok (.iaload, 1) := by decide +kernel
theorem dL_law_1114 : decode cL_law 1114 = .ok (.invokevirtual 142, 3) := by decide +kernel
theorem dL_law_1117 : decode cL_law 1117 = .ok (.if_icmp .eq 97, 3) := by decide +kernel
theorem dL_law_1120 : decode cL_law 1120 = .ok (.iconst 0, 1) := by decide +kernel
theorem dL_law_1121 : decode cL_law 1121 = .ok (.ireturn, 1) := by decide +kernel
theorem dL_law_1122 : decode cL_law 1122 = .ok (.aload_n 1, 1) := by decide +kernel
theorem dL_law_1123 : decode cL_law 1123 = .ok (.aload_n 0, 1) := by decide +kernel
theorem dL_law_1124 : decode cL_law 1124 = .ok (.iload_n 3, 1) := by decide +kernel
theorem dL_law_1125 : decode cL_law 1125 = .ok (.iconst 1, 1) := by decide +kernel
theorem dL_law_1126 : decode cL_law 1126 = .ok (.iadd, 1) := by decide +kernel
theorem dL_law_1127 : decode cL_law 1127 = .ok (.iaload, 1) := by decide +kernel
theorem dL_law_1128 : decode cL_law 1128 = .ok (.aload_n 0, 1) := by decide +kernel
theorem dL_law_1129 : decode cL_law 1129 = .ok (.iload_n 3, 1) := by decide +kernel
theorem dL_law_1130 : decode cL_law 1130 = .ok (.iconst 2, 1) := by decide +kernel
theorem dL_law_1131 : decode cL_law 1131 = .ok (.iadd, 1) := by decide +kernel
theorem dL_law_1132 : decode cL_law 1132 = .ok (.iaload, 1) := by decide +kernel
theorem dL_law_1133 : decode cL_law 1133 = .ok (.invokevirtual 143, 3) := by decide +kernel
theorem dL_law_1136 : decode cL_law 1136 = .ok (.aload_n 2, 1) := by decide +kernel
theorem dL_law_1137 : decode cL_law 1137 = .ok (.aload_n 0, 1) := by decide +kernel
theorem dL_law_1138 : decode cL_law 1138 = .ok (.iload_n 3, 1) := by decide +kernel
theorem dL_law_1139 : decode cL_law 1139 = .ok (.iconst 1, 1) := by decide +kernel
theorem dL_law_1140 : decode cL_law 1140 = .ok (.iadd, 1) := by decide +kernel
theorem dL_law_1141 : decode cL_law 1141 = .ok (.iaload, 1) := by decide +kernel
theorem dL_law_1142 : decode cL_law 1142 = .ok (.aload_n 0, 1) := by decide +kernel
theorem dL_law_1143 : decode cL_law 1143 = .ok (.iload_n 3, 1) := by decide +kernel
theorem dL_law_1144 : decode cL_law 1144 = .ok (.iconst 2, 1) := by decide +kernel
theorem dL_law_1145 : decode cL_law 1145 = .ok (.iadd, 1) := by decide +kernel
theorem dL_law_1146 : decode cL_law 1146 = .ok (.iaload, 1) := by decide +kernel
theorem dL_law_1147 : decode cL_law 1147 = .ok (.invokevirtual 146, 3) := by decide +kernel
theorem dL_law_1150 : decode cL_law 1150 = .ok (.if_icmp .eq 64, 3) := by decide +kernel
theorem dL_law_1153 : decode cL_law 1153 = .ok (.iconst 0, 1) := by decide +kernel
theorem dL_law_1154 : decode cL_law 1154 = .ok (.ireturn, 1) := by decide +kernel
theorem dL_law_1155 : decode cL_law 1155 = .ok (.aload_n 1, 1) := by decide +kernel
theorem dL_law_1156 : decode cL_law 1156 = .ok (.aload_n 0, 1) := by decide +kernel
theorem dL_law_1157 : decode cL_law 1157 = .ok (.iload_n 3, 1) := by decide +kernel
theorem dL_law_1158 : decode cL_law 1158 = .ok (.iconst 1, 1) := by decide +kernel
theorem dL_law_1159 : decode cL_law 1159 = .ok (.iadd, 1) := by decide +kernel
theorem dL_law_1160 : decode cL_law 1160 = .ok (.iaload, 1) := by decide +kernel
theorem dL_law_1161 : decode cL_law 1161 = .ok (.invokevirtual 147, 3) := by decide +kernel
theorem dL_law_1164 : decode cL_law 1164 = .ok (.aload_n 2, 1) := by decide +kernel
theorem dL_law_1165 : decode cL_law 1165 = .ok (.aload_n 0, 1) := by decide +kernel
theorem dL_law_1166 : decode cL_law 1166 = .ok (.iload_n 3, 1) := by decide +kernel
theorem dL_law_1167 : decode cL_law 1167 = .ok (.iconst 1, 1) := by decide +kernel
theorem dL_law_1168 : decode cL_law 1168 = .ok (.iadd, 1) := by decide +kernel
theorem dL_law_1169 : decode cL_law 1169 = .ok (.iaload, 1) := by decide +kernel
theorem dL_law_1170 : decode cL_law 1170 = .ok (.invokevirtual 150, 3) := by decide +kernel
theorem dL_law_1173 : decode cL_law 1173 = .ok (.if_icmp .eq 41, 3) := by decide +kernel
theorem dL_law_1176 : decode cL_law 1176 = .ok (.iconst 0, 1) := by decide +kernel
theorem dL_law_1177 : decode cL_law 1177 = .ok (.ireturn, 1) := by decide +kernel
theorem dL_law_1178 : decode cL_law 1178 = .ok (.aload_n 1, 1) := by decide +kernel
theorem dL_law_1179 : decode cL_law 1179 = .ok (.aload_n 0, 1) := by decide +kernel
theorem dL_law_1180 : decode cL_law 1180 = .ok (.iload_n 3, 1) := by decide +kernel
theorem dL_law_1181 : decode cL_law 1181 = .ok (.iconst 1, 1) := by decide +kernel
theorem dL_law_1182 : decode cL_law 1182 = .ok (.iadd, 1) := by decide +kernel
theorem dL_law_1183 : decode cL_law 1183 = .ok (.iaload, 1) := by decide +kernel
theorem dL_law_1184 : decode cL_law 1184 = .ok (.invokevirtual 151, 3) := by decide +kernel
theorem dL_law_1187 : decode cL_law 1187 = .ok (.aload_n 2, 1) := by decide +kernel
theorem dL_law_1188 : decode cL_law 1188 = .ok (.aload_n 0, 1) := by decide +kernel
theorem dL_law_1189 : decode cL_law 1189 = .ok (.iload_n 3, 1) := by decide +kernel
theorem dL_law_1190 : decode cL_law 1190 = .ok (.iconst 1, 1) := by decide +kernel
theorem dL_law_1191 : decode cL_law 1191 = .ok (.iadd, 1) := by decide +kernel
theorem dL_law_1192 : decode cL_law 1192 = .ok (.iaload, 1) := by decide +kernel
theorem dL_law_1193 : decode cL_law 1193 = .ok (.invokevirtual 154, 3) := by decide +kernel
theorem dL_law_1196 : decode cL_law 1196 = .ok (.if_icmp .eq 18, 3) := by decide +kernel
theorem dL_law_1199 : decode cL_law 1199 = .ok (.iconst 0, 1) := by decide +kernel
theorem dL_law_1200 : decode cL_law 1200 = .ok (.ireturn, 1) := by decide +kernel
theorem dL_law_1201 : decode cL_law 1201 = .ok (.aload_n 1, 1) := by decide +kernel
theorem dL_law_1202 : decode cL_law 1202 = .ok (.invokevirtual 155, 3) := by decide +kernel
theorem dL_law_1205 : decode cL_law 1205 = .ok (.aload_n 2, 1) := by decide +kernel
theorem dL_law_1206 : decode cL_law 1206 = .ok (.invokevirtual 158, 3) := by decide +kernel
theorem dL_law_1209 : decode cL_law 1209 = .ok (.if_icmp .eq 5, 3) := by decide +kernel
theorem dL_law_1212 : decode cL_law 1212 = .ok (.iconst 0, 1) := by decide +kernel
theorem dL_law_1213 : decode cL_law 1213 = .ok (.ireturn, 1) := by decide +kernel
theorem dL_law_1214 : decode cL_law 1214 = .ok (.iinc 3 6, 3) := by decide +kernel
theorem dL_law_1217 : decode cL_law 1217 = .ok (.goto (-1199), 3) := by decide +kernel
theorem dL_law_1220 : decode cL_law 1220 = .ok (.iconst 1, 1) := by decide +kernel
theorem dL_law_1221 : decode cL_law 1221 = .ok (.ireturn, 1) := by decide +kernel
