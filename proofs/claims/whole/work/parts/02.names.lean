def lw_good : List Cond := lw_tbl.filter goodWord
theorem gd_t {w : Cond} (h : w ∈ tables_1) (hg : goodWord w = true) : w ∈ lw_good := List.mem_filter.mpr ⟨List.mem_append_right _ h, hg⟩
theorem gd_s {w : Cond} (h : w ∈ k2_sels lw_privs) (hg : goodWord w = true) : w ∈ lw_good := List.mem_filter.mpr ⟨List.mem_append_left _ h, hg⟩
theorem gd_tbl {w : Cond} (h : w ∈ lw_good) : w ∈ lw_tbl := (List.mem_filter.mp h).1
theorem gd_is {w : Cond} (h : w ∈ lw_good) : (w.onTables && w.keeps) = true ∨ ∃ ty, w = .arrayClass ty := good_of_word (List.mem_filter.mp h).2
theorem tb_1 {w : Cond} (h : w ∈ tables_1_1) : w ∈ tables_1 := List.mem_append_left _ h
theorem tb_2 {w : Cond} (h : w ∈ tables_1_2) : w ∈ tables_1 := List.mem_append_right _ (List.mem_append_left _ h)
theorem tb_3 {w : Cond} (h : w ∈ tables_1_3) : w ∈ tables_1 := List.mem_append_right _ (List.mem_append_right _ (List.mem_append_left _ h))
theorem tb_4 {w : Cond} (h : w ∈ tables_1_4) : w ∈ tables_1 := List.mem_append_right _ (List.mem_append_right _ (List.mem_append_right _ h))
def RX0 : String := "HarbourText$BadList"
def TX0 : u_T := fun k => match k with
  | 0 => ("HarbourText$BadList", "entries", "[I", true)
  | _ => ("HarbourText$BadList", "size", "I", false)
def tyX0 : Nat → FieldType := fun k => match k with
  | 0 => .array .int
  | _ => .int
abbrev wsX00 : List Cond := u_ws RX0 TX0 2
theorem nmX0_ok : ∀ a, a < 2 → ∀ b, b < 2 → a ≠ b → (TX0 a).2.1 ≠ (TX0 b).2.1 := by decide +kernel
theorem tyX0_ok : ∀ k, k < 2 → parseFieldDescriptor (TX0 k).2.2.1 = some (tyX0 k) := by decide +kernel
def RX1 : String := "HarbourText$Harbour"
def TX1 : u_T := fun k => match k with
  | 0 => ("HarbourText$Harbour", "kinds", "[I", true)
  | 1 => ("HarbourText$Harbour", "names", "[I", true)
  | 2 => ("HarbourText$Harbour", "numbers", "[I", true)
  | _ => ("HarbourText$Harbour", "size", "I", false)
def tyX1 : Nat → FieldType := fun k => match k with
  | 0 => .array .int
  | 1 => .array .int
  | 2 => .array .int
  | _ => .int
abbrev wsX10 : List Cond := u_ws RX1 TX1 4
theorem nmX1_ok : ∀ a, a < 4 → ∀ b, b < 4 → a ≠ b → (TX1 a).2.1 ≠ (TX1 b).2.1 := by decide +kernel
theorem tyX1_ok : ∀ k, k < 4 → parseFieldDescriptor (TX1 k).2.2.1 = some (tyX1 k) := by decide +kernel
def RX2 : String := "HarbourText$Printout"
def TX2 : u_T := fun k => match k with
  | 0 => ("HarbourText$Printout", "signs", "[C", true)
  | _ => ("HarbourText$Printout", "length", "I", false)
def tyX2 : Nat → FieldType := fun k => match k with
  | 0 => .array .char
  | _ => .int
abbrev wsX20 : List Cond := u_ws RX2 TX2 2
theorem nmX2_ok : ∀ a, a < 2 → ∀ b, b < 2 → a ≠ b → (TX2 a).2.1 ≠ (TX2 b).2.1 := by decide +kernel
theorem tyX2_ok : ∀ k, k < 2 → parseFieldDescriptor (TX2 k).2.2.1 = some (tyX2 k) := by decide +kernel
def RX3 : String := "HarbourText$TextReader"
def TX3 : u_T := fun k => match k with
  | 0 => ("HarbourText$TextReader", "signs", "[C", true)
  | 1 => ("HarbourText$TextReader", "draft", "LHarbourText$Harbour;", true)
  | 2 => ("HarbourText$TextReader", "length", "I", false)
  | 3 => ("HarbourText$TextReader", "place", "I", false)
  | 4 => ("HarbourText$TextReader", "failureNumber", "I", false)
  | _ => ("HarbourText$TextReader", "failurePlace", "I", false)
def tyX3 : Nat → FieldType := fun k => match k with
  | 0 => .array .char
  | 1 => .object "HarbourText$Harbour"
  | 2 => .int
  | 3 => .int
  | 4 => .int
  | _ => .int
abbrev wsX30 : List Cond := u_ws RX3 TX3 6
theorem nmX3_ok : ∀ a, a < 6 → ∀ b, b < 6 → a ≠ b → (TX3 a).2.1 ≠ (TX3 b).2.1 := by decide +kernel
theorem tyX3_ok : ∀ k, k < 6 → parseFieldDescriptor (TX3 k).2.2.1 = some (tyX3 k) := by decide +kernel
def RX4 : String := "HarbourText$Ways"
def TX4 : u_T := fun k => match k with
  | _ => ("HarbourText$Ways", "depths", "[I", true)
def tyX4 : Nat → FieldType := fun k => match k with
  | _ => .array .int
abbrev wsX40 : List Cond := u_ws RX4 TX4 1
theorem nmX4_ok : ∀ a, a < 1 → ∀ b, b < 1 → a ≠ b → (TX4 a).2.1 ≠ (TX4 b).2.1 := by decide +kernel
theorem tyX4_ok : ∀ k, k < 1 → parseFieldDescriptor (TX4 k).2.2.1 = some (tyX4 k) := by decide +kernel
def RX5 : String := "HarbourText"
def TX5 : u_T := fun k => match k with
  | 0 => ("HarbourText", "reader", "LHarbourText$TextReader;", true)
  | 1 => ("HarbourText", "harbour", "LHarbourText$Harbour;", true)
  | 2 => ("HarbourText", "kept", "LHarbourText$Harbour;", true)
  | 3 => ("HarbourText", "ways", "LHarbourText$Ways;", true)
  | 4 => ("HarbourText", "badList", "LHarbourText$BadList;", true)
  | _ => ("HarbourText", "printout", "LHarbourText$Printout;", true)
def tyX5 : Nat → FieldType := fun k => match k with
  | 0 => .object "HarbourText$TextReader"
  | 1 => .object "HarbourText$Harbour"
  | 2 => .object "HarbourText$Harbour"
  | 3 => .object "HarbourText$Ways"
  | 4 => .object "HarbourText$BadList"
  | _ => .object "HarbourText$Printout"
abbrev wsX50 : List Cond := u_ws RX5 TX5 6
theorem nmX5_ok : ∀ a, a < 6 → ∀ b, b < 6 → a ≠ b → (TX5 a).2.1 ≠ (TX5 b).2.1 := by decide +kernel
theorem tyX5_ok : ∀ k, k < 6 → parseFieldDescriptor (TX5 k).2.2.1 = some (tyX5 k) := by decide +kernel
def RX6 : String := "HarbourTextModel"
def TX6 : u_T := fun k => match k with
  | 0 => ("HarbourTextModel", "thrown", "I", false)
  | 1 => ("HarbourTextModel", "text", "[I", true)
  | 2 => ("HarbourTextModel", "signs", "I", false)
  | 3 => ("HarbourTextModel", "failed", "I", false)
  | 4 => ("HarbourTextModel", "failedAt", "I", false)
  | 5 => ("HarbourTextModel", "told", "[I", true)
  | 6 => ("HarbourTextModel", "pieces", "I", false)
  | 7 => ("HarbourTextModel", "kept", "I", false)
  | 8 => ("HarbourTextModel", "coming", "I", false)
  | 9 => ("HarbourTextModel", "deepTo", "[I", true)
  | _ => ("HarbourTextModel", "printed", "[I", true)
def tyX6 : Nat → FieldType := fun k => match k with
  | 0 => .int
  | 1 => .array .int
  | 2 => .int
  | 3 => .int
  | 4 => .int
  | 5 => .array .int
  | 6 => .int
  | 7 => .int
  | 8 => .int
  | 9 => .array .int
  | _ => .array .int
abbrev wsX60 : List Cond := u_ws RX6 TX6 11
theorem nmX6_ok : ∀ a, a < 11 → ∀ b, b < 11 → a ≠ b → (TX6 a).2.1 ≠ (TX6 b).2.1 := by decide +kernel
theorem tyX6_ok : ∀ k, k < 11 → parseFieldDescriptor (TX6 k).2.2.1 = some (tyX6 k) := by decide +kernel
def RL : String := "HarbourTextLaw"
abbrev vwCl : List vw_C := [(RX0, TX0, 2), (RX1, TX1, 4), (RX2, TX2, 2), (RX3, TX3, 6), (RX4, TX4, 1), (RX5, TX5, 6), (RX6, TX6, 11)]
abbrev cX5_init : ByteArray := prog_1_method_1_code
def yX5_init : MethodName := ⟨RX5, "<init>", "()V"⟩
abbrev cX3_init : ByteArray := prog_5_method_1_code
def yX3_init : MethodName := ⟨RX3, "<init>", "()V"⟩
abbrev cX1_init : ByteArray := prog_3_method_1_code
def yX1_init : MethodName := ⟨RX1, "<init>", "()V"⟩
abbrev cX4_init : ByteArray := prog_6_method_1_code
def yX4_init : MethodName := ⟨RX4, "<init>", "()V"⟩
abbrev cX0_init : ByteArray := prog_2_method_1_code
def yX0_init : MethodName := ⟨RX0, "<init>", "()V"⟩
abbrev cX2_init : ByteArray := prog_4_method_1_code
def yX2_init : MethodName := ⟨RX2, "<init>", "()V"⟩
abbrev cX5_sign : ByteArray := prog_1_method_2_code
def yX5_sign : MethodName := ⟨RX5, "sign", "(I)Z"⟩
abbrev cX3_collect : ByteArray := prog_5_method_6_code
def yX3_collect : MethodName := ⟨RX3, "collect", "(I)Z"⟩
abbrev cX5_failure : ByteArray := prog_1_method_4_code
def yX5_failure : MethodName := ⟨RX5, "failure", "(I)I"⟩
abbrev cX3_failureNumber : ByteArray := prog_5_method_3_code
def yX3_failureNumber : MethodName := ⟨RX3, "failureNumber", "()I"⟩
abbrev cX3_failurePlace : ByteArray := prog_5_method_4_code
def yX3_failurePlace : MethodName := ⟨RX3, "failurePlace", "()I"⟩
abbrev cX5_find : ByteArray := prog_1_method_6_code
def yX5_find : MethodName := ⟨RX5, "find", "(II)I"⟩
abbrev cX1_indexOf : ByteArray := prog_3_method_10_code
def yX1_indexOf : MethodName := ⟨RX1, "indexOf", "(II)I"⟩
abbrev cX5_bad : ByteArray := prog_1_method_9_code
def yX5_bad : MethodName := ⟨RX5, "bad", "()I"⟩
abbrev cX0_size : ByteArray := prog_2_method_2_code
def yX0_size : MethodName := ⟨RX0, "size", "()I"⟩
abbrev cX5_unjoined : ByteArray := prog_1_method_10_code
def yX5_unjoined : MethodName := ⟨RX5, "unjoined", "(I)I"⟩
abbrev cX0_entry : ByteArray := prog_2_method_3_code
def yX0_entry : MethodName := ⟨RX0, "entry", "(I)I"⟩
abbrev cX5_print : ByteArray := prog_1_method_11_code
def yX5_print : MethodName := ⟨RX5, "print", "()I"⟩
abbrev cX2_length : ByteArray := prog_4_method_2_code
def yX2_length : MethodName := ⟨RX2, "length", "()I"⟩
abbrev cX5_keep : ByteArray := prog_1_method_13_code
def yX5_keep : MethodName := ⟨RX5, "keep", "()I"⟩
abbrev cX1_copyFrom : ByteArray := prog_3_method_15_code
def yX1_copyFrom : MethodName := ⟨RX1, "copyFrom", "(LHarbourText$Harbour;)V"⟩
abbrev cX1_size : ByteArray := prog_3_method_2_code
def yX1_size : MethodName := ⟨RX1, "size", "()I"⟩
abbrev cX5_compare : ByteArray := prog_1_method_14_code
def yX5_compare : MethodName := ⟨RX5, "compare", "()I"⟩
abbrev cX1_missingIn : ByteArray := prog_3_method_16_code
def yX1_missingIn : MethodName := ⟨RX1, "missingIn", "(LHarbourText$Harbour;)I"⟩
abbrev cX1_changedIn : ByteArray := prog_3_method_17_code
def yX1_changedIn : MethodName := ⟨RX1, "changedIn", "(LHarbourText$Harbour;)I"⟩
abbrev cX1_hasSameNumbers : ByteArray := prog_3_method_18_code
def yX1_hasSameNumbers : MethodName := ⟨RX1, "hasSameNumbers", "(ILHarbourText$Harbour;I)Z"⟩
abbrev cX1_kindOf : ByteArray := prog_3_method_7_code
def yX1_kindOf : MethodName := ⟨RX1, "kindOf", "(I)I"⟩
abbrev cX5_numbersOfKind : ByteArray := prog_1_method_18_code
def yX5_numbersOfKind : MethodName := ⟨RX5, "numbersOfKind", "(I)I"⟩
abbrev cX5_isKind : ByteArray := prog_1_method_17_code
def yX5_isKind : MethodName := ⟨RX5, "isKind", "(I)Z"⟩
abbrev cX1_numberOf : ByteArray := prog_3_method_9_code
def yX1_numberOf : MethodName := ⟨RX1, "numberOf", "(II)I"⟩
abbrev cX5_count : ByteArray := prog_1_method_15_code
def yX5_count : MethodName := ⟨RX5, "count", "(I)I"⟩
abbrev cX3_length : ByteArray := prog_5_method_2_code
def yX3_length : MethodName := ⟨RX3, "length", "()I"⟩
abbrev cX1_sizeOfKind : ByteArray := prog_3_method_11_code
def yX1_sizeOfKind : MethodName := ⟨RX1, "sizeOfKind", "(I)I"⟩
abbrev cL_read : ByteArray := method_3_code
def yL_read : MethodName := ⟨RL, "read", "(LHarbourText;[J)I"⟩
abbrev cX5_read : ByteArray := prog_1_method_3_code
def yX5_read : MethodName := ⟨RX5, "read", "()I"⟩
abbrev cX3_readAll : ByteArray := prog_5_method_7_code
def yX3_readAll : MethodName := ⟨RX3, "readAll", "()Z"⟩
abbrev cX1_clear : ByteArray := prog_3_method_4_code
def yX1_clear : MethodName := ⟨RX1, "clear", "()V"⟩
abbrev cX3_readRow : ByteArray := prog_5_method_8_code
def yX3_readRow : MethodName := ⟨RX3, "readRow", "()Z"⟩
abbrev cX3_kindHere : ByteArray := prog_5_method_16_code
def yX3_kindHere : MethodName := ⟨RX3, "kindHere", "()I"⟩
abbrev cX3_signHere : ByteArray := prog_5_method_17_code
def yX3_signHere : MethodName := ⟨RX3, "signHere", "()I"⟩
abbrev cX3_fail : ByteArray := prog_5_method_18_code
def yX3_fail : MethodName := ⟨RX3, "fail", "(II)Z"⟩
abbrev cX1_isFull : ByteArray := prog_3_method_3_code
def yX1_isFull : MethodName := ⟨RX1, "isFull", "()Z"⟩
abbrev cX3_readName : ByteArray := prog_5_method_9_code
def yX3_readName : MethodName := ⟨RX3, "readName", "(I)Z"⟩
abbrev cX3_readDigits : ByteArray := prog_5_method_14_code
def yX3_readDigits : MethodName := ⟨RX3, "readDigits", "()I"⟩
abbrev cX3_digitHere : ByteArray := prog_5_method_15_code
def yX3_digitHere : MethodName := ⟨RX3, "digitHere", "()I"⟩
abbrev cX1_begin : ByteArray := prog_3_method_5_code
def yX1_begin : MethodName := ⟨RX1, "begin", "(II)V"⟩
abbrev cX3_readSign : ByteArray := prog_5_method_13_code
def yX3_readSign : MethodName := ⟨RX3, "readSign", "(C)Z"⟩
abbrev cX3_readNumber : ByteArray := prog_5_method_10_code
def yX3_readNumber : MethodName := ⟨RX3, "readNumber", "(II)Z"⟩
abbrev cX3_judgeNumber : ByteArray := prog_5_method_11_code
def yX3_judgeNumber : MethodName := ⟨RX3, "judgeNumber", "(III)I"⟩
abbrev cX3_isInRange : ByteArray := prog_5_method_12_code
def yX3_isInRange : MethodName := ⟨RX3, "isInRange", "(III)Z"⟩
abbrev cX1_setNumber : ByteArray := prog_3_method_6_code
def yX1_setNumber : MethodName := ⟨RX1, "setNumber", "(II)V"⟩
abbrev cX3_result : ByteArray := prog_5_method_5_code
def yX3_result : MethodName := ⟨RX3, "result", "()LHarbourText$Harbour;"⟩
abbrev cX0_judge : ByteArray := prog_2_method_4_code
def yX0_judge : MethodName := ⟨RX0, "judge", "(LHarbourText$Harbour;LHarbourText$Ways;)V"⟩
abbrev cX4_spread : ByteArray := prog_6_method_3_code
def yX4_spread : MethodName := ⟨RX4, "spread", "(LHarbourText$Harbour;II)V"⟩
abbrev cX4_spreadOnce : ByteArray := prog_6_method_4_code
def yX4_spreadOnce : MethodName := ⟨RX4, "spreadOnce", "(LHarbourText$Harbour;I)Z"⟩
abbrev cX4_spreadAlong : ByteArray := prog_6_method_5_code
def yX4_spreadAlong : MethodName := ⟨RX4, "spreadAlong", "(LHarbourText$Harbour;I)Z"⟩
abbrev cX4_deepen : ByteArray := prog_6_method_6_code
def yX4_deepen : MethodName := ⟨RX4, "deepen", "(III)Z"⟩
abbrev cX5_isPoint : ByteArray := prog_1_method_16_code
def yX5_isPoint : MethodName := ⟨RX5, "isPoint", "(I)Z"⟩
abbrev cX0_addAll : ByteArray := prog_2_method_5_code
def yX0_addAll : MethodName := ⟨RX0, "addAll", "(LHarbourText$Harbour;LHarbourText$Ways;I)V"⟩
abbrev cX0_holds : ByteArray := prog_2_method_6_code
def yX0_holds : MethodName := ⟨RX0, "holds", "(LHarbourText$Harbour;LHarbourText$Ways;II)Z"⟩
abbrev cX1_hasPieceAt : ByteArray := prog_3_method_14_code
def yX1_hasPieceAt : MethodName := ⟨RX1, "hasPieceAt", "(II)Z"⟩
abbrev cX4_depthAt : ByteArray := prog_6_method_2_code
def yX4_depthAt : MethodName := ⟨RX4, "depthAt", "(I)I"⟩
abbrev cX2_write : ByteArray := prog_4_method_4_code
def yX2_write : MethodName := ⟨RX2, "write", "(LHarbourText$Harbour;)V"⟩
abbrev cX1_nextBehind : ByteArray := prog_3_method_13_code
def yX1_nextBehind : MethodName := ⟨RX1, "nextBehind", "(I)I"⟩
abbrev cX1_rankOf : ByteArray := prog_3_method_12_code
def yX1_rankOf : MethodName := ⟨RX1, "rankOf", "(I)I"⟩
abbrev cX1_nameOf : ByteArray := prog_3_method_8_code
def yX1_nameOf : MethodName := ⟨RX1, "nameOf", "(I)I"⟩
abbrev cX2_writeRow : ByteArray := prog_4_method_5_code
def yX2_writeRow : MethodName := ⟨RX2, "writeRow", "(LHarbourText$Harbour;I)V"⟩
abbrev cX2_writeSign : ByteArray := prog_4_method_7_code
def yX2_writeSign : MethodName := ⟨RX2, "writeSign", "(C)V"⟩
abbrev cX2_writeNumber : ByteArray := prog_4_method_6_code
def yX2_writeNumber : MethodName := ⟨RX2, "writeNumber", "(I)V"⟩
abbrev cL_piece : ByteArray := method_4_code
def yL_piece : MethodName := ⟨RL, "piece", "(LHarbourText;II[J)I"⟩
abbrev cX5_piece : ByteArray := prog_1_method_5_code
def yX5_piece : MethodName := ⟨RX5, "piece", "(II)I"⟩
abbrev cL_reach : ByteArray := method_5_code
def yL_reach : MethodName := ⟨RL, "reach", "(LHarbourText;III[J)I"⟩
abbrev cX5_reach : ByteArray := prog_1_method_7_code
def yX5_reach : MethodName := ⟨RX5, "reach", "(III)I"⟩
abbrev cL_deep : ByteArray := method_6_code
def yL_deep : MethodName := ⟨RL, "deep", "(LHarbourText;II[J)I"⟩
abbrev cX5_deep : ByteArray := prog_1_method_8_code
def yX5_deep : MethodName := ⟨RX5, "deep", "(II)I"⟩
abbrev cL_at : ByteArray := method_7_code
def yL_at : MethodName := ⟨RL, "at", "(LHarbourText;I[J)I"⟩
abbrev cX5_at : ByteArray := prog_1_method_12_code
def yX5_at : MethodName := ⟨RX5, "at", "(I)I"⟩
abbrev cX2_signAt : ByteArray := prog_4_method_3_code
def yX2_signAt : MethodName := ⟨RX2, "signAt", "(I)I"⟩
abbrev cX6_init : ByteArray := prog_8_method_1_code
def yX6_init : MethodName := ⟨RX6, "<init>", "()V"⟩
abbrev cX6_thrown : ByteArray := prog_8_method_2_code
def yX6_thrown : MethodName := ⟨RX6, "thrown", "()I"⟩
abbrev cX6_sign : ByteArray := prog_8_method_10_code
def yX6_sign : MethodName := ⟨RX6, "sign", "(I)Z"⟩
abbrev cX6_in : ByteArray := prog_8_method_4_code
def yX6_in : MethodName := ⟨RX6, "in", "(III)Z"⟩
abbrev cX6_read : ByteArray := prog_8_method_18_code
def yX6_read : MethodName := ⟨RX6, "read", "()I"⟩
abbrev cX6_readsRow : ByteArray := prog_8_method_17_code
def yX6_readsRow : MethodName := ⟨RX6, "readsRow", "(I)I"⟩
abbrev cX6_kindOf : ByteArray := prog_8_method_7_code
def yX6_kindOf : MethodName := ⟨RX6, "kindOf", "(I)I"⟩
abbrev cX6_letterOf : ByteArray := prog_8_method_6_code
def yX6_letterOf : MethodName := ⟨RX6, "letterOf", "(I)I"⟩
abbrev cX6_fails : ByteArray := prog_8_method_11_code
def yX6_fails : MethodName := ⟨RX6, "fails", "(II)I"⟩
abbrev cX6_readsNumber : ByteArray := prog_8_method_16_code
def yX6_readsNumber : MethodName := ⟨RX6, "readsNumber", "(III)I"⟩
abbrev cX6_numberAt : ByteArray := prog_8_method_13_code
def yX6_numberAt : MethodName := ⟨RX6, "numberAt", "(I)I"⟩
abbrev cX6_signAt : ByteArray := prog_8_method_12_code
def yX6_signAt : MethodName := ⟨RX6, "signAt", "(I)I"⟩
abbrev cX6_isDigit : ByteArray := prog_8_method_5_code
def yX6_isDigit : MethodName := ⟨RX6, "isDigit", "(I)Z"⟩
abbrev cX6_wrong : ByteArray := prog_8_method_15_code
def yX6_wrong : MethodName := ⟨RX6, "wrong", "(II)I"⟩
abbrev cX6_findIn : ByteArray := prog_8_method_14_code
def yX6_findIn : MethodName := ⟨RX6, "findIn", "(IIII)I"⟩
abbrev cX6_isRange : ByteArray := prog_8_method_9_code
def yX6_isRange : MethodName := ⟨RX6, "isRange", "(III)Z"⟩
abbrev cX6_numbersOf : ByteArray := prog_8_method_8_code
def yX6_numbersOf : MethodName := ⟨RX6, "numbersOf", "(I)I"⟩
abbrev cX6_refuse : ByteArray := prog_8_method_3_code
def yX6_refuse : MethodName := ⟨RX6, "refuse", "(I)I"⟩
abbrev cX6_copies : ByteArray := prog_8_method_19_code
def yX6_copies : MethodName := ⟨RX6, "copies", "(III)V"⟩
abbrev cX6_failure : ByteArray := prog_8_method_20_code
def yX6_failure : MethodName := ⟨RX6, "failure", "(I)I"⟩
abbrev cX6_piece : ByteArray := prog_8_method_21_code
def yX6_piece : MethodName := ⟨RX6, "piece", "(II)I"⟩
abbrev cX6_find : ByteArray := prog_8_method_22_code
def yX6_find : MethodName := ⟨RX6, "find", "(II)I"⟩
abbrev cX6_reach : ByteArray := prog_8_method_26_code
def yX6_reach : MethodName := ⟨RX6, "reach", "(III)I"⟩
abbrev cX6_isPoint : ByteArray := prog_8_method_25_code
def yX6_isPoint : MethodName := ⟨RX6, "isPoint", "(I)Z"⟩
abbrev cX6_goes : ByteArray := prog_8_method_24_code
def yX6_goes : MethodName := ⟨RX6, "goes", "(II)V"⟩
abbrev cX6_less : ByteArray := prog_8_method_23_code
def yX6_less : MethodName := ⟨RX6, "less", "(II)I"⟩
abbrev cX6_deep : ByteArray := prog_8_method_27_code
def yX6_deep : MethodName := ⟨RX6, "deep", "(II)I"⟩
abbrev cX6_bad : ByteArray := prog_8_method_31_code
def yX6_bad : MethodName := ⟨RX6, "bad", "()I"⟩
abbrev cX6_badAt : ByteArray := prog_8_method_30_code
def yX6_badAt : MethodName := ⟨RX6, "badAt", "(I)I"⟩
abbrev cX6_isBad : ByteArray := prog_8_method_29_code
def yX6_isBad : MethodName := ⟨RX6, "isBad", "(II)Z"⟩
abbrev cX6_isTouched : ByteArray := prog_8_method_28_code
def yX6_isTouched : MethodName := ⟨RX6, "isTouched", "(II)Z"⟩
abbrev cX6_unjoined : ByteArray := prog_8_method_32_code
def yX6_unjoined : MethodName := ⟨RX6, "unjoined", "(I)I"⟩
abbrev cX6_print : ByteArray := prog_8_method_37_code
def yX6_print : MethodName := ⟨RX6, "print", "()I"⟩
abbrev cX6_length : ByteArray := prog_8_method_36_code
def yX6_length : MethodName := ⟨RX6, "length", "()I"⟩
abbrev cX6_prints : ByteArray := prog_8_method_35_code
def yX6_prints : MethodName := ⟨RX6, "prints", "(I)I"⟩
abbrev cX6_puts : ByteArray := prog_8_method_34_code
def yX6_puts : MethodName := ⟨RX6, "puts", "(III)I"⟩
abbrev cX6_at : ByteArray := prog_8_method_38_code
def yX6_at : MethodName := ⟨RX6, "at", "(I)I"⟩
abbrev cX6_order : ByteArray := prog_8_method_33_code
def yX6_order : MethodName := ⟨RX6, "order", "(I)I"⟩
abbrev cX6_keep : ByteArray := prog_8_method_39_code
def yX6_keep : MethodName := ⟨RX6, "keep", "()I"⟩
abbrev cX6_compare : ByteArray := prog_8_method_41_code
def yX6_compare : MethodName := ⟨RX6, "compare", "()I"⟩
abbrev cX6_isAlike : ByteArray := prog_8_method_40_code
def yX6_isAlike : MethodName := ⟨RX6, "isAlike", "(II)Z"⟩
abbrev cX6_count : ByteArray := prog_8_method_42_code
def yX6_count : MethodName := ⟨RX6, "count", "(I)I"⟩
abbrev cL_law : ByteArray := code
def yL_law : MethodName := ⟨RL, "law", "([I)Z"⟩
theorem w_1 : (Jvm.Cond.initialized "HarbourTextLaw") ∈ lw_good := gd_t (tb_1 (List.mem_of_getElem? (i := 0) rfl)) rfl
theorem w_2 : (Jvm.Cond.initialized "HarbourText") ∈ lw_good := gd_t (tb_1 (List.mem_of_getElem? (i := 1) rfl)) rfl
theorem w_3 : (Jvm.Cond.initialized "HarbourText$TextReader") ∈ lw_good := gd_t (tb_1 (List.mem_of_getElem? (i := 2) rfl)) rfl
theorem w_4 : (Jvm.Cond.initialized "HarbourText$Harbour") ∈ lw_good := gd_t (tb_1 (List.mem_of_getElem? (i := 3) rfl)) rfl
theorem w_5 : (Jvm.Cond.initialized "HarbourText$Ways") ∈ lw_good := gd_t (tb_1 (List.mem_of_getElem? (i := 4) rfl)) rfl
theorem w_6 : (Jvm.Cond.initialized "HarbourText$BadList") ∈ lw_good := gd_t (tb_1 (List.mem_of_getElem? (i := 5) rfl)) rfl
theorem w_7 : (Jvm.Cond.initialized "HarbourText$Printout") ∈ lw_good := gd_t (tb_1 (List.mem_of_getElem? (i := 6) rfl)) rfl
theorem w_8 : (Jvm.Cond.initialized "HarbourTextModel") ∈ lw_good := gd_t (tb_1 (List.mem_of_getElem? (i := 7) rfl)) rfl
theorem w_9 : (Jvm.Cond.initialized "java/lang/Throwable") ∈ lw_good := gd_t (tb_1 (List.mem_of_getElem? (i := 8) rfl)) rfl
theorem w_10 : (Jvm.Cond.initialized "java/lang/Exception") ∈ lw_good := gd_t (tb_1 (List.mem_of_getElem? (i := 9) rfl)) rfl
theorem w_11 : (Jvm.Cond.initialized "java/lang/RuntimeException") ∈ lw_good := gd_t (tb_1 (List.mem_of_getElem? (i := 10) rfl)) rfl
theorem w_12 : (Jvm.Cond.initialized "java/lang/IllegalStateException") ∈ lw_good := gd_t (tb_1 (List.mem_of_getElem? (i := 11) rfl)) rfl
theorem w_13 : (Jvm.Cond.initialized "java/lang/System") ∈ lw_good := gd_t (tb_1 (List.mem_of_getElem? (i := 12) rfl)) rfl
theorem w_14 : (Jvm.Cond.initialized "java/lang/Math") ∈ lw_good := gd_t (tb_1 (List.mem_of_getElem? (i := 13) rfl)) rfl
theorem w_15 : (Jvm.Cond.initialized "java/lang/IndexOutOfBoundsException") ∈ lw_good := gd_t (tb_1 (List.mem_of_getElem? (i := 14) rfl)) rfl
theorem w_16 : (Jvm.Cond.initialized "java/lang/IllegalArgumentException") ∈ lw_good := gd_t (tb_1 (List.mem_of_getElem? (i := 15) rfl)) rfl
theorem w_17 : (Jvm.Cond.classLink "HarbourTextLaw" (8 : Nat) "HarbourText") ∈ lw_good := gd_t (tb_1 (List.mem_of_getElem? (i := 16) rfl)) rfl
theorem w_18 : (Jvm.Cond.instantiable "HarbourText" (6 : Nat)) ∈ lw_good := gd_t (tb_1 (List.mem_of_getElem? (i := 17) rfl)) rfl
theorem w_19 : (Jvm.Cond.methodLink "HarbourTextLaw" (34 : Nat) ({ cls := "HarbourText", name := "<init>", desc := "()V" } : Jvm.MethodName)) ∈ lw_good := gd_t (tb_1 (List.mem_of_getElem? (i := 18) rfl)) rfl
theorem w_20 : (Jvm.Cond.instanceMethod ({ cls := "HarbourText", name := "<init>", desc := "()V" } : Jvm.MethodName)) ∈ lw_good := gd_t (tb_1 (List.mem_of_getElem? (i := 19) rfl)) rfl
theorem w_21 : (Jvm.Cond.code ({ cls := "HarbourText", name := "<init>", desc := "()V" } : Jvm.MethodName) prog_1_method_1_code (1 : Nat) (Option.none : Option Jvm.ClassFile.FieldType)) ∈ lw_good := gd_t (tb_1 (List.mem_of_getElem? (i := 20) rfl)) rfl
theorem w_22 : (Jvm.Cond.methodLink "HarbourText" (1 : Nat) ({ cls := "java/lang/Object", name := "<init>", desc := "()V" } : Jvm.MethodName)) ∈ lw_good := gd_t (tb_1 (List.mem_of_getElem? (i := 21) rfl)) rfl
theorem w_23 : (Jvm.Cond.instanceMethod ({ cls := "java/lang/Object", name := "<init>", desc := "()V" } : Jvm.MethodName)) ∈ lw_good := gd_t (tb_1 (List.mem_of_getElem? (i := 22) rfl)) rfl
theorem w_24 : (Jvm.Cond.code ({ cls := "java/lang/Object", name := "<init>", desc := "()V" } : Jvm.MethodName) object_method_1_code (1 : Nat) (Option.none : Option Jvm.ClassFile.FieldType)) ∈ lw_good := gd_t (tb_1 (List.mem_of_getElem? (i := 23) rfl)) rfl
theorem w_25 : (Jvm.Cond.classLink "HarbourText" (7 : Nat) "HarbourText$TextReader") ∈ lw_good := gd_t (tb_1 (List.mem_of_getElem? (i := 24) rfl)) rfl
theorem w_26 : (Jvm.Cond.instantiable "HarbourText$TextReader" (6 : Nat)) ∈ lw_good := gd_t (tb_1 (List.mem_of_getElem? (i := 25) rfl)) rfl
theorem w_27 : (Jvm.Cond.instanceMethod ({ cls := "HarbourText$TextReader", name := "<init>", desc := "()V" } : Jvm.MethodName)) ∈ lw_good := gd_t (tb_1 (List.mem_of_getElem? (i := 27) rfl)) rfl
theorem w_28 : (Jvm.Cond.code ({ cls := "HarbourText$TextReader", name := "<init>", desc := "()V" } : Jvm.MethodName) prog_5_method_1_code (1 : Nat) (Option.none : Option Jvm.ClassFile.FieldType)) ∈ lw_good := gd_t (tb_1 (List.mem_of_getElem? (i := 28) rfl)) rfl
theorem w_29 : (Jvm.Cond.methodLink "HarbourText$TextReader" (3 : Nat) ({ cls := "java/lang/Object", name := "<init>", desc := "()V" } : Jvm.MethodName)) ∈ lw_good := gd_t (tb_1 (List.mem_of_getElem? (i := 29) rfl)) rfl
theorem w_30 : (Jvm.Cond.classLink "HarbourText$TextReader" (15 : Nat) "HarbourText$Harbour") ∈ lw_good := gd_t (tb_1 (List.mem_of_getElem? (i := 30) rfl)) rfl
theorem w_31 : (Jvm.Cond.instantiable "HarbourText$Harbour" (4 : Nat)) ∈ lw_good := gd_t (tb_1 (List.mem_of_getElem? (i := 31) rfl)) rfl
theorem w_32 : (Jvm.Cond.instanceMethod ({ cls := "HarbourText$Harbour", name := "<init>", desc := "()V" } : Jvm.MethodName)) ∈ lw_good := gd_t (tb_1 (List.mem_of_getElem? (i := 33) rfl)) rfl
theorem w_33 : (Jvm.Cond.code ({ cls := "HarbourText$Harbour", name := "<init>", desc := "()V" } : Jvm.MethodName) prog_3_method_1_code (1 : Nat) (Option.none : Option Jvm.ClassFile.FieldType)) ∈ lw_good := gd_t (tb_1 (List.mem_of_getElem? (i := 34) rfl)) rfl
theorem w_34 : (Jvm.Cond.methodLink "HarbourText$Harbour" (3 : Nat) ({ cls := "java/lang/Object", name := "<init>", desc := "()V" } : Jvm.MethodName)) ∈ lw_good := gd_t (tb_1 (List.mem_of_getElem? (i := 35) rfl)) rfl
theorem w_35 : (Jvm.Cond.fieldLink "HarbourText$Harbour" (9 : Nat) "HarbourText$Harbour" "kinds" "[I") ∈ lw_good := gd_t (tb_1 (List.mem_of_getElem? (i := 36) rfl)) rfl
theorem w_36 : (Jvm.Cond.fieldLink "HarbourText$Harbour" (15 : Nat) "HarbourText$Harbour" "names" "[I") ∈ lw_good := gd_t (tb_1 (List.mem_of_getElem? (i := 37) rfl)) rfl
theorem w_37 : (Jvm.Cond.fieldLink "HarbourText$Harbour" (18 : Nat) "HarbourText$Harbour" "numbers" "[I") ∈ lw_good := gd_t (tb_1 (List.mem_of_getElem? (i := 38) rfl)) rfl
theorem w_38 : (Jvm.Cond.fieldLink "HarbourText$Harbour" (21 : Nat) "HarbourText$Harbour" "size" "I") ∈ lw_good := gd_t (tb_1 (List.mem_of_getElem? (i := 39) rfl)) rfl
theorem w_39 : (Jvm.Cond.laysFinal "HarbourText$Harbour" "HarbourText$Harbour" "kinds" "[I") ∈ lw_good := gd_t (tb_1 (List.mem_of_getElem? (i := 40) rfl)) rfl
theorem w_40 : (Jvm.Cond.soleField "HarbourText$Harbour" "kinds") ∈ lw_good := gd_t (tb_1 (List.mem_of_getElem? (i := 41) rfl)) rfl
theorem w_41 : (Jvm.Cond.laysFinal "HarbourText$Harbour" "HarbourText$Harbour" "names" "[I") ∈ lw_good := gd_t (tb_1 (List.mem_of_getElem? (i := 42) rfl)) rfl
theorem w_42 : (Jvm.Cond.soleField "HarbourText$Harbour" "names") ∈ lw_good := gd_t (tb_1 (List.mem_of_getElem? (i := 43) rfl)) rfl
theorem w_43 : (Jvm.Cond.laysFinal "HarbourText$Harbour" "HarbourText$Harbour" "numbers" "[I") ∈ lw_good := gd_t (tb_1 (List.mem_of_getElem? (i := 44) rfl)) rfl
theorem w_44 : (Jvm.Cond.soleField "HarbourText$Harbour" "numbers") ∈ lw_good := gd_t (tb_1 (List.mem_of_getElem? (i := 45) rfl)) rfl
theorem w_45 : (Jvm.Cond.lays "HarbourText$Harbour" "HarbourText$Harbour" "size" "I") ∈ lw_good := gd_t (tb_1 (List.mem_of_getElem? (i := 46) rfl)) rfl
theorem w_46 : (Jvm.Cond.soleField "HarbourText$Harbour" "size") ∈ lw_good := gd_t (tb_1 (List.mem_of_getElem? (i := 47) rfl)) rfl
theorem w_47 : (Jvm.Cond.superclass "HarbourText$Harbour" "java/lang/Object") ∈ lw_good := gd_t (tb_1 (List.mem_of_getElem? (i := 48) rfl)) rfl
theorem w_48 : (Jvm.Cond.arrayClass Jvm.ClassFile.FieldType.char) ∈ lw_good := gd_t (tb_1 (List.mem_of_getElem? (i := 49) rfl)) rfl
theorem w_49 : (Jvm.Cond.arrayClass Jvm.ClassFile.FieldType.int) ∈ lw_good := gd_t (tb_1 (List.mem_of_getElem? (i := 50) rfl)) rfl
theorem w_50 : (Jvm.Cond.fieldLink "HarbourText$TextReader" (9 : Nat) "HarbourText$TextReader" "signs" "[C") ∈ lw_good := gd_t (tb_1 (List.mem_of_getElem? (i := 51) rfl)) rfl
theorem w_51 : (Jvm.Cond.fieldLink "HarbourText$TextReader" (18 : Nat) "HarbourText$TextReader" "draft" "LHarbourText$Harbour;") ∈ lw_good := gd_t (tb_1 (List.mem_of_getElem? (i := 52) rfl)) rfl
theorem w_52 : (Jvm.Cond.fieldLink "HarbourText$TextReader" (22 : Nat) "HarbourText$TextReader" "length" "I") ∈ lw_good := gd_t (tb_1 (List.mem_of_getElem? (i := 53) rfl)) rfl
theorem w_53 : (Jvm.Cond.fieldLink "HarbourText$TextReader" (26 : Nat) "HarbourText$TextReader" "place" "I") ∈ lw_good := gd_t (tb_1 (List.mem_of_getElem? (i := 54) rfl)) rfl
theorem w_54 : (Jvm.Cond.fieldLink "HarbourText$TextReader" (29 : Nat) "HarbourText$TextReader" "failureNumber" "I") ∈ lw_good := gd_t (tb_1 (List.mem_of_getElem? (i := 55) rfl)) rfl
theorem w_55 : (Jvm.Cond.fieldLink "HarbourText$TextReader" (32 : Nat) "HarbourText$TextReader" "failurePlace" "I") ∈ lw_good := gd_t (tb_1 (List.mem_of_getElem? (i := 56) rfl)) rfl
theorem w_56 : (Jvm.Cond.laysFinal "HarbourText$TextReader" "HarbourText$TextReader" "signs" "[C") ∈ lw_good := gd_t (tb_1 (List.mem_of_getElem? (i := 57) rfl)) rfl
theorem w_57 : (Jvm.Cond.soleField "HarbourText$TextReader" "signs") ∈ lw_good := gd_t (tb_1 (List.mem_of_getElem? (i := 58) rfl)) rfl
theorem w_58 : (Jvm.Cond.laysFinal "HarbourText$TextReader" "HarbourText$TextReader" "draft" "LHarbourText$Harbour;") ∈ lw_good := gd_t (tb_1 (List.mem_of_getElem? (i := 59) rfl)) rfl
theorem w_59 : (Jvm.Cond.soleField "HarbourText$TextReader" "draft") ∈ lw_good := gd_t (tb_1 (List.mem_of_getElem? (i := 60) rfl)) rfl
theorem w_60 : (Jvm.Cond.lays "HarbourText$TextReader" "HarbourText$TextReader" "length" "I") ∈ lw_good := gd_t (tb_1 (List.mem_of_getElem? (i := 61) rfl)) rfl
theorem w_61 : (Jvm.Cond.soleField "HarbourText$TextReader" "length") ∈ lw_good := gd_t (tb_1 (List.mem_of_getElem? (i := 62) rfl)) rfl
theorem w_62 : (Jvm.Cond.lays "HarbourText$TextReader" "HarbourText$TextReader" "place" "I") ∈ lw_good := gd_t (tb_1 (List.mem_of_getElem? (i := 63) rfl)) rfl
theorem w_63 : (Jvm.Cond.soleField "HarbourText$TextReader" "place") ∈ lw_good := gd_t (tb_1 (List.mem_of_getElem? (i := 64) rfl)) rfl
theorem w_64 : (Jvm.Cond.lays "HarbourText$TextReader" "HarbourText$TextReader" "failureNumber" "I") ∈ lw_good := gd_t (tb_1 (List.mem_of_getElem? (i := 65) rfl)) rfl
theorem w_65 : (Jvm.Cond.soleField "HarbourText$TextReader" "failureNumber") ∈ lw_good := gd_t (tb_1 (List.mem_of_getElem? (i := 66) rfl)) rfl
theorem w_66 : (Jvm.Cond.lays "HarbourText$TextReader" "HarbourText$TextReader" "failurePlace" "I") ∈ lw_good := gd_t (tb_1 (List.mem_of_getElem? (i := 67) rfl)) rfl
theorem w_67 : (Jvm.Cond.soleField "HarbourText$TextReader" "failurePlace") ∈ lw_good := gd_t (tb_1 (List.mem_of_getElem? (i := 68) rfl)) rfl
theorem w_68 : (Jvm.Cond.superclass "HarbourText$TextReader" "java/lang/Object") ∈ lw_good := gd_t (tb_1 (List.mem_of_getElem? (i := 69) rfl)) rfl
theorem w_69 : (Jvm.Cond.classLink "HarbourText" (16 : Nat) "HarbourText$Harbour") ∈ lw_good := gd_t (tb_1 (List.mem_of_getElem? (i := 70) rfl)) rfl
theorem w_70 : (Jvm.Cond.classLink "HarbourText" (26 : Nat) "HarbourText$Ways") ∈ lw_good := gd_t (tb_1 (List.mem_of_getElem? (i := 72) rfl)) rfl
theorem w_71 : (Jvm.Cond.instantiable "HarbourText$Ways" (1 : Nat)) ∈ lw_good := gd_t (tb_1 (List.mem_of_getElem? (i := 73) rfl)) rfl
theorem w_72 : (Jvm.Cond.instanceMethod ({ cls := "HarbourText$Ways", name := "<init>", desc := "()V" } : Jvm.MethodName)) ∈ lw_good := gd_t (tb_1 (List.mem_of_getElem? (i := 75) rfl)) rfl
theorem w_73 : (Jvm.Cond.code ({ cls := "HarbourText$Ways", name := "<init>", desc := "()V" } : Jvm.MethodName) prog_6_method_1_code (1 : Nat) (Option.none : Option Jvm.ClassFile.FieldType)) ∈ lw_good := gd_t (tb_1 (List.mem_of_getElem? (i := 76) rfl)) rfl
theorem w_74 : (Jvm.Cond.methodLink "HarbourText$Ways" (3 : Nat) ({ cls := "java/lang/Object", name := "<init>", desc := "()V" } : Jvm.MethodName)) ∈ lw_good := gd_t (tb_1 (List.mem_of_getElem? (i := 77) rfl)) rfl
theorem w_75 : (Jvm.Cond.fieldLink "HarbourText$Ways" (9 : Nat) "HarbourText$Ways" "depths" "[I") ∈ lw_good := gd_t (tb_1 (List.mem_of_getElem? (i := 78) rfl)) rfl
theorem w_76 : (Jvm.Cond.laysFinal "HarbourText$Ways" "HarbourText$Ways" "depths" "[I") ∈ lw_good := gd_t (tb_1 (List.mem_of_getElem? (i := 79) rfl)) rfl
theorem w_77 : (Jvm.Cond.soleField "HarbourText$Ways" "depths") ∈ lw_good := gd_t (tb_1 (List.mem_of_getElem? (i := 80) rfl)) rfl
theorem w_78 : (Jvm.Cond.superclass "HarbourText$Ways" "java/lang/Object") ∈ lw_good := gd_t (tb_1 (List.mem_of_getElem? (i := 81) rfl)) rfl
theorem w_79 : (Jvm.Cond.classLink "HarbourText" (33 : Nat) "HarbourText$BadList") ∈ lw_good := gd_t (tb_1 (List.mem_of_getElem? (i := 82) rfl)) rfl
theorem w_80 : (Jvm.Cond.instantiable "HarbourText$BadList" (2 : Nat)) ∈ lw_good := gd_t (tb_1 (List.mem_of_getElem? (i := 83) rfl)) rfl
theorem w_81 : (Jvm.Cond.instanceMethod ({ cls := "HarbourText$BadList", name := "<init>", desc := "()V" } : Jvm.MethodName)) ∈ lw_good := gd_t (tb_1 (List.mem_of_getElem? (i := 85) rfl)) rfl
theorem w_82 : (Jvm.Cond.code ({ cls := "HarbourText$BadList", name := "<init>", desc := "()V" } : Jvm.MethodName) prog_2_method_1_code (1 : Nat) (Option.none : Option Jvm.ClassFile.FieldType)) ∈ lw_good := gd_t (tb_1 (List.mem_of_getElem? (i := 86) rfl)) rfl
theorem w_83 : (Jvm.Cond.methodLink "HarbourText$BadList" (3 : Nat) ({ cls := "java/lang/Object", name := "<init>", desc := "()V" } : Jvm.MethodName)) ∈ lw_good := gd_t (tb_1 (List.mem_of_getElem? (i := 87) rfl)) rfl
theorem w_84 : (Jvm.Cond.fieldLink "HarbourText$BadList" (9 : Nat) "HarbourText$BadList" "entries" "[I") ∈ lw_good := gd_t (tb_1 (List.mem_of_getElem? (i := 88) rfl)) rfl
theorem w_85 : (Jvm.Cond.fieldLink "HarbourText$BadList" (15 : Nat) "HarbourText$BadList" "size" "I") ∈ lw_good := gd_t (tb_1 (List.mem_of_getElem? (i := 89) rfl)) rfl
theorem w_86 : (Jvm.Cond.laysFinal "HarbourText$BadList" "HarbourText$BadList" "entries" "[I") ∈ lw_good := gd_t (tb_1 (List.mem_of_getElem? (i := 90) rfl)) rfl
theorem w_87 : (Jvm.Cond.soleField "HarbourText$BadList" "entries") ∈ lw_good := gd_t (tb_1 (List.mem_of_getElem? (i := 91) rfl)) rfl
theorem w_88 : (Jvm.Cond.lays "HarbourText$BadList" "HarbourText$BadList" "size" "I") ∈ lw_good := gd_t (tb_1 (List.mem_of_getElem? (i := 92) rfl)) rfl
theorem w_89 : (Jvm.Cond.soleField "HarbourText$BadList" "size") ∈ lw_good := gd_t (tb_1 (List.mem_of_getElem? (i := 93) rfl)) rfl
theorem w_90 : (Jvm.Cond.superclass "HarbourText$BadList" "java/lang/Object") ∈ lw_good := gd_t (tb_1 (List.mem_of_getElem? (i := 94) rfl)) rfl
theorem w_91 : (Jvm.Cond.classLink "HarbourText" (40 : Nat) "HarbourText$Printout") ∈ lw_good := gd_t (tb_1 (List.mem_of_getElem? (i := 95) rfl)) rfl
theorem w_92 : (Jvm.Cond.instantiable "HarbourText$Printout" (2 : Nat)) ∈ lw_good := gd_t (tb_1 (List.mem_of_getElem? (i := 96) rfl)) rfl
theorem w_93 : (Jvm.Cond.instanceMethod ({ cls := "HarbourText$Printout", name := "<init>", desc := "()V" } : Jvm.MethodName)) ∈ lw_good := gd_t (tb_1 (List.mem_of_getElem? (i := 98) rfl)) rfl
theorem w_94 : (Jvm.Cond.code ({ cls := "HarbourText$Printout", name := "<init>", desc := "()V" } : Jvm.MethodName) prog_4_method_1_code (1 : Nat) (Option.none : Option Jvm.ClassFile.FieldType)) ∈ lw_good := gd_t (tb_1 (List.mem_of_getElem? (i := 99) rfl)) rfl
theorem w_95 : (Jvm.Cond.methodLink "HarbourText$Printout" (3 : Nat) ({ cls := "java/lang/Object", name := "<init>", desc := "()V" } : Jvm.MethodName)) ∈ lw_good := gd_t (tb_1 (List.mem_of_getElem? (i := 100) rfl)) rfl
theorem w_96 : (Jvm.Cond.fieldLink "HarbourText$Printout" (9 : Nat) "HarbourText$Printout" "signs" "[C") ∈ lw_good := gd_t (tb_1 (List.mem_of_getElem? (i := 101) rfl)) rfl
theorem w_97 : (Jvm.Cond.fieldLink "HarbourText$Printout" (15 : Nat) "HarbourText$Printout" "length" "I") ∈ lw_good := gd_t (tb_1 (List.mem_of_getElem? (i := 102) rfl)) rfl
theorem w_98 : (Jvm.Cond.laysFinal "HarbourText$Printout" "HarbourText$Printout" "signs" "[C") ∈ lw_good := gd_t (tb_1 (List.mem_of_getElem? (i := 103) rfl)) rfl
theorem w_99 : (Jvm.Cond.soleField "HarbourText$Printout" "signs") ∈ lw_good := gd_t (tb_1 (List.mem_of_getElem? (i := 104) rfl)) rfl
theorem w_100 : (Jvm.Cond.lays "HarbourText$Printout" "HarbourText$Printout" "length" "I") ∈ lw_good := gd_t (tb_1 (List.mem_of_getElem? (i := 105) rfl)) rfl
theorem w_101 : (Jvm.Cond.soleField "HarbourText$Printout" "length") ∈ lw_good := gd_t (tb_1 (List.mem_of_getElem? (i := 106) rfl)) rfl
theorem w_102 : (Jvm.Cond.superclass "HarbourText$Printout" "java/lang/Object") ∈ lw_good := gd_t (tb_1 (List.mem_of_getElem? (i := 107) rfl)) rfl
theorem w_103 : (Jvm.Cond.fieldLink "HarbourText" (10 : Nat) "HarbourText" "reader" "LHarbourText$TextReader;") ∈ lw_good := gd_t (tb_1 (List.mem_of_getElem? (i := 108) rfl)) rfl
theorem w_104 : (Jvm.Cond.fieldLink "HarbourText" (19 : Nat) "HarbourText" "harbour" "LHarbourText$Harbour;") ∈ lw_good := gd_t (tb_1 (List.mem_of_getElem? (i := 109) rfl)) rfl
theorem w_105 : (Jvm.Cond.fieldLink "HarbourText" (23 : Nat) "HarbourText" "kept" "LHarbourText$Harbour;") ∈ lw_good := gd_t (tb_1 (List.mem_of_getElem? (i := 110) rfl)) rfl
theorem w_106 : (Jvm.Cond.fieldLink "HarbourText" (29 : Nat) "HarbourText" "ways" "LHarbourText$Ways;") ∈ lw_good := gd_t (tb_1 (List.mem_of_getElem? (i := 111) rfl)) rfl
theorem w_107 : (Jvm.Cond.fieldLink "HarbourText" (36 : Nat) "HarbourText" "badList" "LHarbourText$BadList;") ∈ lw_good := gd_t (tb_1 (List.mem_of_getElem? (i := 112) rfl)) rfl
theorem w_108 : (Jvm.Cond.fieldLink "HarbourText" (43 : Nat) "HarbourText" "printout" "LHarbourText$Printout;") ∈ lw_good := gd_t (tb_1 (List.mem_of_getElem? (i := 113) rfl)) rfl
theorem w_109 : (Jvm.Cond.laysFinal "HarbourText" "HarbourText" "reader" "LHarbourText$TextReader;") ∈ lw_good := gd_t (tb_1 (List.mem_of_getElem? (i := 114) rfl)) rfl
theorem w_110 : (Jvm.Cond.soleField "HarbourText" "reader") ∈ lw_good := gd_t (tb_1 (List.mem_of_getElem? (i := 115) rfl)) rfl
theorem w_111 : (Jvm.Cond.laysFinal "HarbourText" "HarbourText" "harbour" "LHarbourText$Harbour;") ∈ lw_good := gd_t (tb_1 (List.mem_of_getElem? (i := 116) rfl)) rfl
theorem w_112 : (Jvm.Cond.soleField "HarbourText" "harbour") ∈ lw_good := gd_t (tb_1 (List.mem_of_getElem? (i := 117) rfl)) rfl
theorem w_113 : (Jvm.Cond.laysFinal "HarbourText" "HarbourText" "kept" "LHarbourText$Harbour;") ∈ lw_good := gd_t (tb_1 (List.mem_of_getElem? (i := 118) rfl)) rfl
theorem w_114 : (Jvm.Cond.soleField "HarbourText" "kept") ∈ lw_good := gd_t (tb_1 (List.mem_of_getElem? (i := 119) rfl)) rfl
theorem w_115 : (Jvm.Cond.laysFinal "HarbourText" "HarbourText" "ways" "LHarbourText$Ways;") ∈ lw_good := gd_t (tb_1 (List.mem_of_getElem? (i := 120) rfl)) rfl
theorem w_116 : (Jvm.Cond.soleField "HarbourText" "ways") ∈ lw_good := gd_t (tb_1 (List.mem_of_getElem? (i := 121) rfl)) rfl
theorem w_117 : (Jvm.Cond.laysFinal "HarbourText" "HarbourText" "badList" "LHarbourText$BadList;") ∈ lw_good := gd_t (tb_1 (List.mem_of_getElem? (i := 122) rfl)) rfl
theorem w_118 : (Jvm.Cond.soleField "HarbourText" "badList") ∈ lw_good := gd_t (tb_1 (List.mem_of_getElem? (i := 123) rfl)) rfl
theorem w_119 : (Jvm.Cond.laysFinal "HarbourText" "HarbourText" "printout" "LHarbourText$Printout;") ∈ lw_good := gd_t (tb_1 (List.mem_of_getElem? (i := 124) rfl)) rfl
theorem w_120 : (Jvm.Cond.soleField "HarbourText" "printout") ∈ lw_good := gd_t (tb_1 (List.mem_of_getElem? (i := 125) rfl)) rfl
theorem w_121 : (Jvm.Cond.superclass "HarbourText" "java/lang/Object") ∈ lw_good := gd_t (tb_1 (List.mem_of_getElem? (i := 126) rfl)) rfl
theorem w_122 : (Jvm.Cond.methodLink "HarbourTextLaw" (38 : Nat) ({ cls := "HarbourText", name := "sign", desc := "(I)Z" } : Jvm.MethodName)) ∈ lw_good := gd_t (tb_1 (List.mem_of_getElem? (i := 127) rfl)) rfl
theorem w_123 : (Jvm.Cond.instanceMethod ({ cls := "HarbourText", name := "sign", desc := "(I)Z" } : Jvm.MethodName)) ∈ lw_good := gd_t (tb_1 (List.mem_of_getElem? (i := 128) rfl)) rfl
theorem w_124 : (Jvm.Cond.selects "HarbourText" ({ cls := "HarbourText", name := "sign", desc := "(I)Z" } : Jvm.MethodName) ({ cls := "HarbourText", name := "sign", desc := "(I)Z" } : Jvm.MethodName)) ∈ lw_good := gd_t (tb_1 (List.mem_of_getElem? (i := 129) rfl)) rfl
theorem w_125 : (Jvm.Cond.code ({ cls := "HarbourText", name := "sign", desc := "(I)Z" } : Jvm.MethodName) prog_1_method_2_code (2 : Nat) (Option.some Jvm.ClassFile.FieldType.boolean)) ∈ lw_good := gd_t (tb_1 (List.mem_of_getElem? (i := 130) rfl)) rfl
theorem w_126 : (Jvm.Cond.methodLink "HarbourText" (47 : Nat) ({ cls := "HarbourText$TextReader", name := "collect", desc := "(I)Z" } : Jvm.MethodName)) ∈ lw_good := gd_t (tb_1 (List.mem_of_getElem? (i := 131) rfl)) rfl
theorem w_127 : (Jvm.Cond.instanceMethod ({ cls := "HarbourText$TextReader", name := "collect", desc := "(I)Z" } : Jvm.MethodName)) ∈ lw_good := gd_t (tb_1 (List.mem_of_getElem? (i := 132) rfl)) rfl
theorem w_128 : (Jvm.Cond.selects "HarbourText$TextReader" ({ cls := "HarbourText$TextReader", name := "collect", desc := "(I)Z" } : Jvm.MethodName) ({ cls := "HarbourText$TextReader", name := "collect", desc := "(I)Z" } : Jvm.MethodName)) ∈ lw_good := gd_t (tb_1 (List.mem_of_getElem? (i := 133) rfl)) rfl
theorem w_129 : (Jvm.Cond.code ({ cls := "HarbourText$TextReader", name := "collect", desc := "(I)Z" } : Jvm.MethodName) prog_5_method_6_code (2 : Nat) (Option.some Jvm.ClassFile.FieldType.boolean)) ∈ lw_good := gd_t (tb_1 (List.mem_of_getElem? (i := 134) rfl)) rfl
theorem w_130 : (Jvm.Cond.methodLink "HarbourTextLaw" (52 : Nat) ({ cls := "HarbourText", name := "failure", desc := "(I)I" } : Jvm.MethodName)) ∈ lw_good := gd_t (tb_1 (List.mem_of_getElem? (i := 135) rfl)) rfl
theorem w_131 : (Jvm.Cond.instanceMethod ({ cls := "HarbourText", name := "failure", desc := "(I)I" } : Jvm.MethodName)) ∈ lw_good := gd_t (tb_1 (List.mem_of_getElem? (i := 136) rfl)) rfl
theorem w_132 : (Jvm.Cond.selects "HarbourText" ({ cls := "HarbourText", name := "failure", desc := "(I)I" } : Jvm.MethodName) ({ cls := "HarbourText", name := "failure", desc := "(I)I" } : Jvm.MethodName)) ∈ lw_good := gd_t (tb_1 (List.mem_of_getElem? (i := 137) rfl)) rfl
theorem w_133 : (Jvm.Cond.code ({ cls := "HarbourText", name := "failure", desc := "(I)I" } : Jvm.MethodName) prog_1_method_4_code (2 : Nat) (Option.some Jvm.ClassFile.FieldType.int)) ∈ lw_good := gd_t (tb_1 (List.mem_of_getElem? (i := 138) rfl)) rfl
theorem w_134 : (Jvm.Cond.methodLink "HarbourText" (81 : Nat) ({ cls := "HarbourText$TextReader", name := "failureNumber", desc := "()I" } : Jvm.MethodName)) ∈ lw_good := gd_t (tb_1 (List.mem_of_getElem? (i := 139) rfl)) rfl
theorem w_135 : (Jvm.Cond.instanceMethod ({ cls := "HarbourText$TextReader", name := "failureNumber", desc := "()I" } : Jvm.MethodName)) ∈ lw_good := gd_t (tb_1 (List.mem_of_getElem? (i := 140) rfl)) rfl
theorem w_136 : (Jvm.Cond.selects "HarbourText$TextReader" ({ cls := "HarbourText$TextReader", name := "failureNumber", desc := "()I" } : Jvm.MethodName) ({ cls := "HarbourText$TextReader", name := "failureNumber", desc := "()I" } : Jvm.MethodName)) ∈ lw_good := gd_t (tb_1 (List.mem_of_getElem? (i := 141) rfl)) rfl
theorem w_137 : (Jvm.Cond.code ({ cls := "HarbourText$TextReader", name := "failureNumber", desc := "()I" } : Jvm.MethodName) prog_5_method_3_code (1 : Nat) (Option.some Jvm.ClassFile.FieldType.int)) ∈ lw_good := gd_t (tb_1 (List.mem_of_getElem? (i := 142) rfl)) rfl
theorem w_138 : (Jvm.Cond.methodLink "HarbourText" (84 : Nat) ({ cls := "HarbourText$TextReader", name := "failurePlace", desc := "()I" } : Jvm.MethodName)) ∈ lw_good := gd_t (tb_1 (List.mem_of_getElem? (i := 143) rfl)) rfl
theorem w_139 : (Jvm.Cond.instanceMethod ({ cls := "HarbourText$TextReader", name := "failurePlace", desc := "()I" } : Jvm.MethodName)) ∈ lw_good := gd_t (tb_1 (List.mem_of_getElem? (i := 144) rfl)) rfl
theorem w_140 : (Jvm.Cond.selects "HarbourText$TextReader" ({ cls := "HarbourText$TextReader", name := "failurePlace", desc := "()I" } : Jvm.MethodName) ({ cls := "HarbourText$TextReader", name := "failurePlace", desc := "()I" } : Jvm.MethodName)) ∈ lw_good := gd_t (tb_1 (List.mem_of_getElem? (i := 145) rfl)) rfl
theorem w_141 : (Jvm.Cond.code ({ cls := "HarbourText$TextReader", name := "failurePlace", desc := "()I" } : Jvm.MethodName) prog_5_method_4_code (1 : Nat) (Option.some Jvm.ClassFile.FieldType.int)) ∈ lw_good := gd_t (tb_1 (List.mem_of_getElem? (i := 146) rfl)) rfl
theorem w_142 : (Jvm.Cond.methodLink "HarbourTextLaw" (60 : Nat) ({ cls := "HarbourText", name := "find", desc := "(II)I" } : Jvm.MethodName)) ∈ lw_good := gd_t (tb_1 (List.mem_of_getElem? (i := 147) rfl)) rfl
theorem w_143 : (Jvm.Cond.instanceMethod ({ cls := "HarbourText", name := "find", desc := "(II)I" } : Jvm.MethodName)) ∈ lw_good := gd_t (tb_1 (List.mem_of_getElem? (i := 148) rfl)) rfl
theorem w_144 : (Jvm.Cond.selects "HarbourText" ({ cls := "HarbourText", name := "find", desc := "(II)I" } : Jvm.MethodName) ({ cls := "HarbourText", name := "find", desc := "(II)I" } : Jvm.MethodName)) ∈ lw_good := gd_t (tb_1 (List.mem_of_getElem? (i := 149) rfl)) rfl
theorem w_145 : (Jvm.Cond.code ({ cls := "HarbourText", name := "find", desc := "(II)I" } : Jvm.MethodName) prog_1_method_6_code (3 : Nat) (Option.some Jvm.ClassFile.FieldType.int)) ∈ lw_good := gd_t (tb_1 (List.mem_of_getElem? (i := 150) rfl)) rfl
theorem w_146 : (Jvm.Cond.methodLink "HarbourText" (108 : Nat) ({ cls := "HarbourText$Harbour", name := "indexOf", desc := "(II)I" } : Jvm.MethodName)) ∈ lw_good := gd_t (tb_1 (List.mem_of_getElem? (i := 151) rfl)) rfl
theorem w_147 : (Jvm.Cond.instanceMethod ({ cls := "HarbourText$Harbour", name := "indexOf", desc := "(II)I" } : Jvm.MethodName)) ∈ lw_good := gd_t (tb_1 (List.mem_of_getElem? (i := 152) rfl)) rfl
theorem w_148 : (Jvm.Cond.selects "HarbourText$Harbour" ({ cls := "HarbourText$Harbour", name := "indexOf", desc := "(II)I" } : Jvm.MethodName) ({ cls := "HarbourText$Harbour", name := "indexOf", desc := "(II)I" } : Jvm.MethodName)) ∈ lw_good := gd_t (tb_1 (List.mem_of_getElem? (i := 153) rfl)) rfl
theorem w_149 : (Jvm.Cond.code ({ cls := "HarbourText$Harbour", name := "indexOf", desc := "(II)I" } : Jvm.MethodName) prog_3_method_10_code (4 : Nat) (Option.some Jvm.ClassFile.FieldType.int)) ∈ lw_good := gd_t (tb_1 (List.mem_of_getElem? (i := 154) rfl)) rfl
theorem w_150 : (Jvm.Cond.methodLink "HarbourTextLaw" (71 : Nat) ({ cls := "HarbourText", name := "bad", desc := "()I" } : Jvm.MethodName)) ∈ lw_good := gd_t (tb_1 (List.mem_of_getElem? (i := 155) rfl)) rfl
theorem w_151 : (Jvm.Cond.instanceMethod ({ cls := "HarbourText", name := "bad", desc := "()I" } : Jvm.MethodName)) ∈ lw_good := gd_t (tb_1 (List.mem_of_getElem? (i := 156) rfl)) rfl
theorem w_152 : (Jvm.Cond.selects "HarbourText" ({ cls := "HarbourText", name := "bad", desc := "()I" } : Jvm.MethodName) ({ cls := "HarbourText", name := "bad", desc := "()I" } : Jvm.MethodName)) ∈ lw_good := gd_t (tb_1 (List.mem_of_getElem? (i := 157) rfl)) rfl
theorem w_153 : (Jvm.Cond.code ({ cls := "HarbourText", name := "bad", desc := "()I" } : Jvm.MethodName) prog_1_method_9_code (1 : Nat) (Option.some Jvm.ClassFile.FieldType.int)) ∈ lw_good := gd_t (tb_1 (List.mem_of_getElem? (i := 158) rfl)) rfl
theorem w_154 : (Jvm.Cond.methodLink "HarbourText" (128 : Nat) ({ cls := "HarbourText$BadList", name := "size", desc := "()I" } : Jvm.MethodName)) ∈ lw_good := gd_t (tb_1 (List.mem_of_getElem? (i := 159) rfl)) rfl
theorem w_155 : (Jvm.Cond.instanceMethod ({ cls := "HarbourText$BadList", name := "size", desc := "()I" } : Jvm.MethodName)) ∈ lw_good := gd_t (tb_1 (List.mem_of_getElem? (i := 160) rfl)) rfl
theorem w_156 : (Jvm.Cond.selects "HarbourText$BadList" ({ cls := "HarbourText$BadList", name := "size", desc := "()I" } : Jvm.MethodName) ({ cls := "HarbourText$BadList", name := "size", desc := "()I" } : Jvm.MethodName)) ∈ lw_good := gd_t (tb_1 (List.mem_of_getElem? (i := 161) rfl)) rfl
theorem w_157 : (Jvm.Cond.code ({ cls := "HarbourText$BadList", name := "size", desc := "()I" } : Jvm.MethodName) prog_2_method_2_code (1 : Nat) (Option.some Jvm.ClassFile.FieldType.int)) ∈ lw_good := gd_t (tb_1 (List.mem_of_getElem? (i := 162) rfl)) rfl
theorem w_158 : (Jvm.Cond.methodLink "HarbourTextLaw" (75 : Nat) ({ cls := "HarbourText", name := "unjoined", desc := "(I)I" } : Jvm.MethodName)) ∈ lw_good := gd_t (tb_1 (List.mem_of_getElem? (i := 163) rfl)) rfl
theorem w_159 : (Jvm.Cond.instanceMethod ({ cls := "HarbourText", name := "unjoined", desc := "(I)I" } : Jvm.MethodName)) ∈ lw_good := gd_t (tb_1 (List.mem_of_getElem? (i := 164) rfl)) rfl
theorem w_160 : (Jvm.Cond.selects "HarbourText" ({ cls := "HarbourText", name := "unjoined", desc := "(I)I" } : Jvm.MethodName) ({ cls := "HarbourText", name := "unjoined", desc := "(I)I" } : Jvm.MethodName)) ∈ lw_good := gd_t (tb_1 (List.mem_of_getElem? (i := 165) rfl)) rfl
theorem w_161 : (Jvm.Cond.code ({ cls := "HarbourText", name := "unjoined", desc := "(I)I" } : Jvm.MethodName) prog_1_method_10_code (2 : Nat) (Option.some Jvm.ClassFile.FieldType.int)) ∈ lw_good := gd_t (tb_1 (List.mem_of_getElem? (i := 166) rfl)) rfl
theorem w_162 : (Jvm.Cond.methodLink "HarbourText" (129 : Nat) ({ cls := "HarbourText$BadList", name := "entry", desc := "(I)I" } : Jvm.MethodName)) ∈ lw_good := gd_t (tb_1 (List.mem_of_getElem? (i := 167) rfl)) rfl
theorem w_163 : (Jvm.Cond.instanceMethod ({ cls := "HarbourText$BadList", name := "entry", desc := "(I)I" } : Jvm.MethodName)) ∈ lw_good := gd_t (tb_1 (List.mem_of_getElem? (i := 168) rfl)) rfl
theorem w_164 : (Jvm.Cond.selects "HarbourText$BadList" ({ cls := "HarbourText$BadList", name := "entry", desc := "(I)I" } : Jvm.MethodName) ({ cls := "HarbourText$BadList", name := "entry", desc := "(I)I" } : Jvm.MethodName)) ∈ lw_good := gd_t (tb_1 (List.mem_of_getElem? (i := 169) rfl)) rfl
theorem w_165 : (Jvm.Cond.code ({ cls := "HarbourText$BadList", name := "entry", desc := "(I)I" } : Jvm.MethodName) prog_2_method_3_code (2 : Nat) (Option.some Jvm.ClassFile.FieldType.int)) ∈ lw_good := gd_t (tb_1 (List.mem_of_getElem? (i := 170) rfl)) rfl
theorem w_166 : (Jvm.Cond.methodLink "HarbourTextLaw" (79 : Nat) ({ cls := "HarbourText", name := "print", desc := "()I" } : Jvm.MethodName)) ∈ lw_good := gd_t (tb_1 (List.mem_of_getElem? (i := 171) rfl)) rfl
theorem w_167 : (Jvm.Cond.instanceMethod ({ cls := "HarbourText", name := "print", desc := "()I" } : Jvm.MethodName)) ∈ lw_good := gd_t (tb_1 (List.mem_of_getElem? (i := 172) rfl)) rfl
theorem w_168 : (Jvm.Cond.selects "HarbourText" ({ cls := "HarbourText", name := "print", desc := "()I" } : Jvm.MethodName) ({ cls := "HarbourText", name := "print", desc := "()I" } : Jvm.MethodName)) ∈ lw_good := gd_t (tb_1 (List.mem_of_getElem? (i := 173) rfl)) rfl
theorem w_169 : (Jvm.Cond.code ({ cls := "HarbourText", name := "print", desc := "()I" } : Jvm.MethodName) prog_1_method_11_code (1 : Nat) (Option.some Jvm.ClassFile.FieldType.int)) ∈ lw_good := gd_t (tb_1 (List.mem_of_getElem? (i := 174) rfl)) rfl
theorem w_170 : (Jvm.Cond.methodLink "HarbourText" (132 : Nat) ({ cls := "HarbourText$Printout", name := "length", desc := "()I" } : Jvm.MethodName)) ∈ lw_good := gd_t (tb_1 (List.mem_of_getElem? (i := 175) rfl)) rfl
theorem w_171 : (Jvm.Cond.instanceMethod ({ cls := "HarbourText$Printout", name := "length", desc := "()I" } : Jvm.MethodName)) ∈ lw_good := gd_t (tb_1 (List.mem_of_getElem? (i := 176) rfl)) rfl
theorem w_172 : (Jvm.Cond.selects "HarbourText$Printout" ({ cls := "HarbourText$Printout", name := "length", desc := "()I" } : Jvm.MethodName) ({ cls := "HarbourText$Printout", name := "length", desc := "()I" } : Jvm.MethodName)) ∈ lw_good := gd_t (tb_1 (List.mem_of_getElem? (i := 177) rfl)) rfl
theorem w_173 : (Jvm.Cond.code ({ cls := "HarbourText$Printout", name := "length", desc := "()I" } : Jvm.MethodName) prog_4_method_2_code (1 : Nat) (Option.some Jvm.ClassFile.FieldType.int)) ∈ lw_good := gd_t (tb_1 (List.mem_of_getElem? (i := 178) rfl)) rfl
theorem w_174 : (Jvm.Cond.methodLink "HarbourTextLaw" (87 : Nat) ({ cls := "HarbourText", name := "keep", desc := "()I" } : Jvm.MethodName)) ∈ lw_good := gd_t (tb_1 (List.mem_of_getElem? (i := 179) rfl)) rfl
theorem w_175 : (Jvm.Cond.instanceMethod ({ cls := "HarbourText", name := "keep", desc := "()I" } : Jvm.MethodName)) ∈ lw_good := gd_t (tb_1 (List.mem_of_getElem? (i := 180) rfl)) rfl
theorem w_176 : (Jvm.Cond.selects "HarbourText" ({ cls := "HarbourText", name := "keep", desc := "()I" } : Jvm.MethodName) ({ cls := "HarbourText", name := "keep", desc := "()I" } : Jvm.MethodName)) ∈ lw_good := gd_t (tb_1 (List.mem_of_getElem? (i := 181) rfl)) rfl
theorem w_177 : (Jvm.Cond.code ({ cls := "HarbourText", name := "keep", desc := "()I" } : Jvm.MethodName) prog_1_method_13_code (1 : Nat) (Option.some Jvm.ClassFile.FieldType.int)) ∈ lw_good := gd_t (tb_1 (List.mem_of_getElem? (i := 182) rfl)) rfl
theorem w_178 : (Jvm.Cond.methodLink "HarbourText" (66 : Nat) ({ cls := "HarbourText$Harbour", name := "copyFrom", desc := "(LHarbourText$Harbour;)V" } : Jvm.MethodName)) ∈ lw_good := gd_t (tb_1 (List.mem_of_getElem? (i := 183) rfl)) rfl
theorem w_179 : (Jvm.Cond.instanceMethod ({ cls := "HarbourText$Harbour", name := "copyFrom", desc := "(LHarbourText$Harbour;)V" } : Jvm.MethodName)) ∈ lw_good := gd_t (tb_1 (List.mem_of_getElem? (i := 184) rfl)) rfl
theorem w_180 : (Jvm.Cond.selects "HarbourText$Harbour" ({ cls := "HarbourText$Harbour", name := "copyFrom", desc := "(LHarbourText$Harbour;)V" } : Jvm.MethodName) ({ cls := "HarbourText$Harbour", name := "copyFrom", desc := "(LHarbourText$Harbour;)V" } : Jvm.MethodName)) ∈ lw_good := gd_t (tb_1 (List.mem_of_getElem? (i := 185) rfl)) rfl
theorem w_181 : (Jvm.Cond.code ({ cls := "HarbourText$Harbour", name := "copyFrom", desc := "(LHarbourText$Harbour;)V" } : Jvm.MethodName) prog_3_method_15_code (2 : Nat) (Option.none : Option Jvm.ClassFile.FieldType)) ∈ lw_good := gd_t (tb_1 (List.mem_of_getElem? (i := 186) rfl)) rfl
theorem w_182 : (Jvm.Cond.methodLink "HarbourText$Harbour" (47 : Nat) ({ cls := "java/lang/System", name := "arraycopy", desc := "(Ljava/lang/Object;ILjava/lang/Object;II)V" } : Jvm.MethodName)) ∈ lw_good := gd_t (tb_1 (List.mem_of_getElem? (i := 187) rfl)) rfl
theorem w_183 : (Jvm.Cond.static ({ cls := "java/lang/System", name := "arraycopy", desc := "(Ljava/lang/Object;ILjava/lang/Object;II)V" } : Jvm.MethodName)) ∈ lw_good := gd_t (tb_1 (List.mem_of_getElem? (i := 188) rfl)) rfl
theorem w_184 : (Jvm.Cond.native ({ cls := "java/lang/System", name := "arraycopy", desc := "(Ljava/lang/Object;ILjava/lang/Object;II)V" } : Jvm.MethodName)) ∈ lw_good := gd_t (tb_1 (List.mem_of_getElem? (i := 189) rfl)) rfl
theorem w_185 : (Jvm.Cond.methodLink "HarbourText" (77 : Nat) ({ cls := "HarbourText$Harbour", name := "size", desc := "()I" } : Jvm.MethodName)) ∈ lw_good := gd_t (tb_1 (List.mem_of_getElem? (i := 190) rfl)) rfl
theorem w_186 : (Jvm.Cond.instanceMethod ({ cls := "HarbourText$Harbour", name := "size", desc := "()I" } : Jvm.MethodName)) ∈ lw_good := gd_t (tb_1 (List.mem_of_getElem? (i := 191) rfl)) rfl
theorem w_187 : (Jvm.Cond.selects "HarbourText$Harbour" ({ cls := "HarbourText$Harbour", name := "size", desc := "()I" } : Jvm.MethodName) ({ cls := "HarbourText$Harbour", name := "size", desc := "()I" } : Jvm.MethodName)) ∈ lw_good := gd_t (tb_1 (List.mem_of_getElem? (i := 192) rfl)) rfl
theorem w_188 : (Jvm.Cond.code ({ cls := "HarbourText$Harbour", name := "size", desc := "()I" } : Jvm.MethodName) prog_3_method_2_code (1 : Nat) (Option.some Jvm.ClassFile.FieldType.int)) ∈ lw_good := gd_t (tb_1 (List.mem_of_getElem? (i := 193) rfl)) rfl
theorem w_189 : (Jvm.Cond.methodLink "HarbourTextLaw" (91 : Nat) ({ cls := "HarbourText", name := "compare", desc := "()I" } : Jvm.MethodName)) ∈ lw_good := gd_t (tb_1 (List.mem_of_getElem? (i := 194) rfl)) rfl
theorem w_190 : (Jvm.Cond.instanceMethod ({ cls := "HarbourText", name := "compare", desc := "()I" } : Jvm.MethodName)) ∈ lw_good := gd_t (tb_1 (List.mem_of_getElem? (i := 195) rfl)) rfl
theorem w_191 : (Jvm.Cond.selects "HarbourText" ({ cls := "HarbourText", name := "compare", desc := "()I" } : Jvm.MethodName) ({ cls := "HarbourText", name := "compare", desc := "()I" } : Jvm.MethodName)) ∈ lw_good := gd_t (tb_1 (List.mem_of_getElem? (i := 196) rfl)) rfl
theorem w_192 : (Jvm.Cond.code ({ cls := "HarbourText", name := "compare", desc := "()I" } : Jvm.MethodName) prog_1_method_14_code (1 : Nat) (Option.some Jvm.ClassFile.FieldType.int)) ∈ lw_good := gd_t (tb_1 (List.mem_of_getElem? (i := 197) rfl)) rfl
theorem w_193 : (Jvm.Cond.methodLink "HarbourText" (140 : Nat) ({ cls := "HarbourText$Harbour", name := "missingIn", desc := "(LHarbourText$Harbour;)I" } : Jvm.MethodName)) ∈ lw_good := gd_t (tb_1 (List.mem_of_getElem? (i := 198) rfl)) rfl
theorem w_194 : (Jvm.Cond.instanceMethod ({ cls := "HarbourText$Harbour", name := "missingIn", desc := "(LHarbourText$Harbour;)I" } : Jvm.MethodName)) ∈ lw_good := gd_t (tb_1 (List.mem_of_getElem? (i := 199) rfl)) rfl
theorem w_195 : (Jvm.Cond.selects "HarbourText$Harbour" ({ cls := "HarbourText$Harbour", name := "missingIn", desc := "(LHarbourText$Harbour;)I" } : Jvm.MethodName) ({ cls := "HarbourText$Harbour", name := "missingIn", desc := "(LHarbourText$Harbour;)I" } : Jvm.MethodName)) ∈ lw_good := gd_t (tb_1 (List.mem_of_getElem? (i := 200) rfl)) rfl
theorem w_196 : (Jvm.Cond.code ({ cls := "HarbourText$Harbour", name := "missingIn", desc := "(LHarbourText$Harbour;)I" } : Jvm.MethodName) prog_3_method_16_code (4 : Nat) (Option.some Jvm.ClassFile.FieldType.int)) ∈ lw_good := gd_t (tb_1 (List.mem_of_getElem? (i := 201) rfl)) rfl
theorem w_197 : (Jvm.Cond.methodLink "HarbourText$Harbour" (53 : Nat) ({ cls := "HarbourText$Harbour", name := "indexOf", desc := "(II)I" } : Jvm.MethodName)) ∈ lw_good := gd_t (tb_1 (List.mem_of_getElem? (i := 202) rfl)) rfl
theorem w_198 : (Jvm.Cond.methodLink "HarbourText" (144 : Nat) ({ cls := "HarbourText$Harbour", name := "changedIn", desc := "(LHarbourText$Harbour;)I" } : Jvm.MethodName)) ∈ lw_good := gd_t (tb_1 (List.mem_of_getElem? (i := 203) rfl)) rfl
theorem w_199 : (Jvm.Cond.instanceMethod ({ cls := "HarbourText$Harbour", name := "changedIn", desc := "(LHarbourText$Harbour;)I" } : Jvm.MethodName)) ∈ lw_good := gd_t (tb_1 (List.mem_of_getElem? (i := 204) rfl)) rfl
theorem w_200 : (Jvm.Cond.selects "HarbourText$Harbour" ({ cls := "HarbourText$Harbour", name := "changedIn", desc := "(LHarbourText$Harbour;)I" } : Jvm.MethodName) ({ cls := "HarbourText$Harbour", name := "changedIn", desc := "(LHarbourText$Harbour;)I" } : Jvm.MethodName)) ∈ lw_good := gd_t (tb_1 (List.mem_of_getElem? (i := 205) rfl)) rfl
theorem w_201 : (Jvm.Cond.code ({ cls := "HarbourText$Harbour", name := "changedIn", desc := "(LHarbourText$Harbour;)I" } : Jvm.MethodName) prog_3_method_17_code (5 : Nat) (Option.some Jvm.ClassFile.FieldType.int)) ∈ lw_good := gd_t (tb_1 (List.mem_of_getElem? (i := 206) rfl)) rfl
theorem w_202 : (Jvm.Cond.methodLink "HarbourText$Harbour" (56 : Nat) ({ cls := "HarbourText$Harbour", name := "hasSameNumbers", desc := "(ILHarbourText$Harbour;I)Z" } : Jvm.MethodName)) ∈ lw_good := gd_t (tb_1 (List.mem_of_getElem? (i := 207) rfl)) rfl
theorem w_203 : (Jvm.Cond.instanceMethod ({ cls := "HarbourText$Harbour", name := "hasSameNumbers", desc := "(ILHarbourText$Harbour;I)Z" } : Jvm.MethodName)) ∈ lw_good := gd_t (tb_1 (List.mem_of_getElem? (i := 209) rfl)) rfl
theorem w_204 : (Jvm.Cond.code ({ cls := "HarbourText$Harbour", name := "hasSameNumbers", desc := "(ILHarbourText$Harbour;I)Z" } : Jvm.MethodName) prog_3_method_18_code (6 : Nat) (Option.some Jvm.ClassFile.FieldType.boolean)) ∈ lw_good := gd_t (tb_1 (List.mem_of_getElem? (i := 210) rfl)) rfl
theorem w_205 : (Jvm.Cond.methodLink "HarbourText$Harbour" (33 : Nat) ({ cls := "HarbourText$Harbour", name := "kindOf", desc := "(I)I" } : Jvm.MethodName)) ∈ lw_good := gd_t (tb_1 (List.mem_of_getElem? (i := 211) rfl)) rfl
theorem w_206 : (Jvm.Cond.instanceMethod ({ cls := "HarbourText$Harbour", name := "kindOf", desc := "(I)I" } : Jvm.MethodName)) ∈ lw_good := gd_t (tb_1 (List.mem_of_getElem? (i := 212) rfl)) rfl
theorem w_207 : (Jvm.Cond.selects "HarbourText$Harbour" ({ cls := "HarbourText$Harbour", name := "kindOf", desc := "(I)I" } : Jvm.MethodName) ({ cls := "HarbourText$Harbour", name := "kindOf", desc := "(I)I" } : Jvm.MethodName)) ∈ lw_good := gd_t (tb_1 (List.mem_of_getElem? (i := 213) rfl)) rfl
theorem w_208 : (Jvm.Cond.code ({ cls := "HarbourText$Harbour", name := "kindOf", desc := "(I)I" } : Jvm.MethodName) prog_3_method_7_code (2 : Nat) (Option.some Jvm.ClassFile.FieldType.int)) ∈ lw_good := gd_t (tb_1 (List.mem_of_getElem? (i := 214) rfl)) rfl
theorem w_209 : (Jvm.Cond.static ({ cls := "HarbourText", name := "numbersOfKind", desc := "(I)I" } : Jvm.MethodName)) ∈ lw_good := gd_t (tb_1 (List.mem_of_getElem? (i := 216) rfl)) rfl
theorem w_210 : (Jvm.Cond.code ({ cls := "HarbourText", name := "numbersOfKind", desc := "(I)I" } : Jvm.MethodName) prog_1_method_18_code (1 : Nat) (Option.some Jvm.ClassFile.FieldType.int)) ∈ lw_good := gd_t (tb_1 (List.mem_of_getElem? (i := 217) rfl)) rfl
theorem w_211 : (Jvm.Cond.methodLink "HarbourText" (151 : Nat) ({ cls := "HarbourText", name := "isKind", desc := "(I)Z" } : Jvm.MethodName)) ∈ lw_good := gd_t (tb_1 (List.mem_of_getElem? (i := 218) rfl)) rfl
theorem w_212 : (Jvm.Cond.static ({ cls := "HarbourText", name := "isKind", desc := "(I)Z" } : Jvm.MethodName)) ∈ lw_good := gd_t (tb_1 (List.mem_of_getElem? (i := 219) rfl)) rfl
theorem w_213 : (Jvm.Cond.code ({ cls := "HarbourText", name := "isKind", desc := "(I)Z" } : Jvm.MethodName) prog_1_method_17_code (1 : Nat) (Option.some Jvm.ClassFile.FieldType.boolean)) ∈ lw_good := gd_t (tb_1 (List.mem_of_getElem? (i := 220) rfl)) rfl
theorem w_214 : (Jvm.Cond.fieldLink "HarbourText" (154 : Nat) "HarbourText" "NUMBERS_OF_KIND" "[I") ∈ lw_good := gd_t (tb_1 (List.mem_of_getElem? (i := 221) rfl)) rfl
theorem w_215 : (Jvm.Cond.methodLink "HarbourText$Harbour" (43 : Nat) ({ cls := "HarbourText$Harbour", name := "numberOf", desc := "(II)I" } : Jvm.MethodName)) ∈ lw_good := gd_t (tb_1 (List.mem_of_getElem? (i := 223) rfl)) rfl
theorem w_216 : (Jvm.Cond.instanceMethod ({ cls := "HarbourText$Harbour", name := "numberOf", desc := "(II)I" } : Jvm.MethodName)) ∈ lw_good := gd_t (tb_1 (List.mem_of_getElem? (i := 224) rfl)) rfl
theorem w_217 : (Jvm.Cond.selects "HarbourText$Harbour" ({ cls := "HarbourText$Harbour", name := "numberOf", desc := "(II)I" } : Jvm.MethodName) ({ cls := "HarbourText$Harbour", name := "numberOf", desc := "(II)I" } : Jvm.MethodName)) ∈ lw_good := gd_t (tb_1 (List.mem_of_getElem? (i := 225) rfl)) rfl
theorem w_218 : (Jvm.Cond.code ({ cls := "HarbourText$Harbour", name := "numberOf", desc := "(II)I" } : Jvm.MethodName) prog_3_method_9_code (3 : Nat) (Option.some Jvm.ClassFile.FieldType.int)) ∈ lw_good := gd_t (tb_1 (List.mem_of_getElem? (i := 226) rfl)) rfl
theorem w_219 : (Jvm.Cond.methodLink "HarbourTextLaw" (95 : Nat) ({ cls := "HarbourText", name := "count", desc := "(I)I" } : Jvm.MethodName)) ∈ lw_good := gd_t (tb_1 (List.mem_of_getElem? (i := 227) rfl)) rfl
theorem w_220 : (Jvm.Cond.instanceMethod ({ cls := "HarbourText", name := "count", desc := "(I)I" } : Jvm.MethodName)) ∈ lw_good := gd_t (tb_1 (List.mem_of_getElem? (i := 228) rfl)) rfl
theorem w_221 : (Jvm.Cond.selects "HarbourText" ({ cls := "HarbourText", name := "count", desc := "(I)I" } : Jvm.MethodName) ({ cls := "HarbourText", name := "count", desc := "(I)I" } : Jvm.MethodName)) ∈ lw_good := gd_t (tb_1 (List.mem_of_getElem? (i := 229) rfl)) rfl
theorem w_222 : (Jvm.Cond.code ({ cls := "HarbourText", name := "count", desc := "(I)I" } : Jvm.MethodName) prog_1_method_15_code (2 : Nat) (Option.some Jvm.ClassFile.FieldType.int)) ∈ lw_good := gd_t (tb_1 (List.mem_of_getElem? (i := 230) rfl)) rfl
theorem w_223 : (Jvm.Cond.methodLink "HarbourText" (147 : Nat) ({ cls := "HarbourText$TextReader", name := "length", desc := "()I" } : Jvm.MethodName)) ∈ lw_good := gd_t (tb_1 (List.mem_of_getElem? (i := 231) rfl)) rfl
theorem w_224 : (Jvm.Cond.instanceMethod ({ cls := "HarbourText$TextReader", name := "length", desc := "()I" } : Jvm.MethodName)) ∈ lw_good := gd_t (tb_1 (List.mem_of_getElem? (i := 232) rfl)) rfl
theorem w_225 : (Jvm.Cond.selects "HarbourText$TextReader" ({ cls := "HarbourText$TextReader", name := "length", desc := "()I" } : Jvm.MethodName) ({ cls := "HarbourText$TextReader", name := "length", desc := "()I" } : Jvm.MethodName)) ∈ lw_good := gd_t (tb_1 (List.mem_of_getElem? (i := 233) rfl)) rfl
theorem w_226 : (Jvm.Cond.code ({ cls := "HarbourText$TextReader", name := "length", desc := "()I" } : Jvm.MethodName) prog_5_method_2_code (1 : Nat) (Option.some Jvm.ClassFile.FieldType.int)) ∈ lw_good := gd_t (tb_1 (List.mem_of_getElem? (i := 234) rfl)) rfl
theorem w_227 : (Jvm.Cond.methodLink "HarbourText" (148 : Nat) ({ cls := "HarbourText$Harbour", name := "sizeOfKind", desc := "(I)I" } : Jvm.MethodName)) ∈ lw_good := gd_t (tb_1 (List.mem_of_getElem? (i := 235) rfl)) rfl
theorem w_228 : (Jvm.Cond.instanceMethod ({ cls := "HarbourText$Harbour", name := "sizeOfKind", desc := "(I)I" } : Jvm.MethodName)) ∈ lw_good := gd_t (tb_1 (List.mem_of_getElem? (i := 236) rfl)) rfl
theorem w_229 : (Jvm.Cond.selects "HarbourText$Harbour" ({ cls := "HarbourText$Harbour", name := "sizeOfKind", desc := "(I)I" } : Jvm.MethodName) ({ cls := "HarbourText$Harbour", name := "sizeOfKind", desc := "(I)I" } : Jvm.MethodName)) ∈ lw_good := gd_t (tb_1 (List.mem_of_getElem? (i := 237) rfl)) rfl
theorem w_230 : (Jvm.Cond.code ({ cls := "HarbourText$Harbour", name := "sizeOfKind", desc := "(I)I" } : Jvm.MethodName) prog_3_method_11_code (4 : Nat) (Option.some Jvm.ClassFile.FieldType.int)) ∈ lw_good := gd_t (tb_1 (List.mem_of_getElem? (i := 238) rfl)) rfl
theorem w_231 : (Jvm.Cond.methodLink "HarbourTextLaw" (43 : Nat) ({ cls := "HarbourTextLaw", name := "read", desc := "(LHarbourText;[J)I" } : Jvm.MethodName)) ∈ lw_good := gd_t (tb_2 (List.mem_of_getElem? (i := 0) rfl)) rfl
theorem w_232 : (Jvm.Cond.static ({ cls := "HarbourTextLaw", name := "read", desc := "(LHarbourText;[J)I" } : Jvm.MethodName)) ∈ lw_good := gd_t (tb_2 (List.mem_of_getElem? (i := 1) rfl)) rfl
theorem w_233 : (Jvm.Cond.codeWith ({ cls := "HarbourTextLaw", name := "read", desc := "(LHarbourText;[J)I" } : Jvm.MethodName) method_3_code (3 : Nat) (Option.some Jvm.ClassFile.FieldType.int) [((0 : Nat), (8 : Nat), (11 : Nat), (13 : Nat))]) ∈ lw_good := gd_t (tb_2 (List.mem_of_getElem? (i := 2) rfl)) rfl
theorem w_234 : (Jvm.Cond.classLink "HarbourTextLaw" (13 : Nat) "java/lang/IllegalStateException") ∈ lw_good := gd_t (tb_2 (List.mem_of_getElem? (i := 3) rfl)) rfl
theorem w_235 : (Jvm.Cond.methodLink "HarbourTextLaw" (7 : Nat) ({ cls := "HarbourText", name := "read", desc := "()I" } : Jvm.MethodName)) ∈ lw_good := gd_t (tb_2 (List.mem_of_getElem? (i := 4) rfl)) rfl
theorem w_236 : (Jvm.Cond.instanceMethod ({ cls := "HarbourText", name := "read", desc := "()I" } : Jvm.MethodName)) ∈ lw_good := gd_t (tb_2 (List.mem_of_getElem? (i := 5) rfl)) rfl
theorem w_237 : (Jvm.Cond.selects "HarbourText" ({ cls := "HarbourText", name := "read", desc := "()I" } : Jvm.MethodName) ({ cls := "HarbourText", name := "read", desc := "()I" } : Jvm.MethodName)) ∈ lw_good := gd_t (tb_2 (List.mem_of_getElem? (i := 6) rfl)) rfl
theorem w_238 : (Jvm.Cond.code ({ cls := "HarbourText", name := "read", desc := "()I" } : Jvm.MethodName) prog_1_method_3_code (1 : Nat) (Option.some Jvm.ClassFile.FieldType.int)) ∈ lw_good := gd_t (tb_2 (List.mem_of_getElem? (i := 7) rfl)) rfl
theorem w_239 : (Jvm.Cond.methodLink "HarbourText" (51 : Nat) ({ cls := "HarbourText$TextReader", name := "readAll", desc := "()Z" } : Jvm.MethodName)) ∈ lw_good := gd_t (tb_2 (List.mem_of_getElem? (i := 8) rfl)) rfl
theorem w_240 : (Jvm.Cond.instanceMethod ({ cls := "HarbourText$TextReader", name := "readAll", desc := "()Z" } : Jvm.MethodName)) ∈ lw_good := gd_t (tb_2 (List.mem_of_getElem? (i := 9) rfl)) rfl
theorem w_241 : (Jvm.Cond.selects "HarbourText$TextReader" ({ cls := "HarbourText$TextReader", name := "readAll", desc := "()Z" } : Jvm.MethodName) ({ cls := "HarbourText$TextReader", name := "readAll", desc := "()Z" } : Jvm.MethodName)) ∈ lw_good := gd_t (tb_2 (List.mem_of_getElem? (i := 10) rfl)) rfl
theorem w_242 : (Jvm.Cond.code ({ cls := "HarbourText$TextReader", name := "readAll", desc := "()Z" } : Jvm.MethodName) prog_5_method_7_code (3 : Nat) (Option.some Jvm.ClassFile.FieldType.boolean)) ∈ lw_good := gd_t (tb_2 (List.mem_of_getElem? (i := 11) rfl)) rfl
theorem w_243 : (Jvm.Cond.methodLink "HarbourText$TextReader" (35 : Nat) ({ cls := "HarbourText$Harbour", name := "clear", desc := "()V" } : Jvm.MethodName)) ∈ lw_good := gd_t (tb_2 (List.mem_of_getElem? (i := 12) rfl)) rfl
theorem w_244 : (Jvm.Cond.instanceMethod ({ cls := "HarbourText$Harbour", name := "clear", desc := "()V" } : Jvm.MethodName)) ∈ lw_good := gd_t (tb_2 (List.mem_of_getElem? (i := 13) rfl)) rfl
theorem w_245 : (Jvm.Cond.selects "HarbourText$Harbour" ({ cls := "HarbourText$Harbour", name := "clear", desc := "()V" } : Jvm.MethodName) ({ cls := "HarbourText$Harbour", name := "clear", desc := "()V" } : Jvm.MethodName)) ∈ lw_good := gd_t (tb_2 (List.mem_of_getElem? (i := 14) rfl)) rfl
theorem w_246 : (Jvm.Cond.code ({ cls := "HarbourText$Harbour", name := "clear", desc := "()V" } : Jvm.MethodName) prog_3_method_4_code (1 : Nat) (Option.none : Option Jvm.ClassFile.FieldType)) ∈ lw_good := gd_t (tb_2 (List.mem_of_getElem? (i := 15) rfl)) rfl
theorem w_247 : (Jvm.Cond.methodLink "HarbourText$TextReader" (38 : Nat) ({ cls := "HarbourText$TextReader", name := "readRow", desc := "()Z" } : Jvm.MethodName)) ∈ lw_good := gd_t (tb_2 (List.mem_of_getElem? (i := 16) rfl)) rfl
theorem w_248 : (Jvm.Cond.instanceMethod ({ cls := "HarbourText$TextReader", name := "readRow", desc := "()Z" } : Jvm.MethodName)) ∈ lw_good := gd_t (tb_2 (List.mem_of_getElem? (i := 18) rfl)) rfl
theorem w_249 : (Jvm.Cond.code ({ cls := "HarbourText$TextReader", name := "readRow", desc := "()Z" } : Jvm.MethodName) prog_5_method_8_code (4 : Nat) (Option.some Jvm.ClassFile.FieldType.boolean)) ∈ lw_good := gd_t (tb_2 (List.mem_of_getElem? (i := 19) rfl)) rfl
theorem w_250 : (Jvm.Cond.methodLink "HarbourText$TextReader" (42 : Nat) ({ cls := "HarbourText$TextReader", name := "kindHere", desc := "()I" } : Jvm.MethodName)) ∈ lw_good := gd_t (tb_2 (List.mem_of_getElem? (i := 20) rfl)) rfl
theorem w_251 : (Jvm.Cond.instanceMethod ({ cls := "HarbourText$TextReader", name := "kindHere", desc := "()I" } : Jvm.MethodName)) ∈ lw_good := gd_t (tb_2 (List.mem_of_getElem? (i := 22) rfl)) rfl
theorem w_252 : (Jvm.Cond.code ({ cls := "HarbourText$TextReader", name := "kindHere", desc := "()I" } : Jvm.MethodName) prog_5_method_16_code (3 : Nat) (Option.some Jvm.ClassFile.FieldType.int)) ∈ lw_good := gd_t (tb_2 (List.mem_of_getElem? (i := 23) rfl)) rfl
theorem w_253 : (Jvm.Cond.methodLink "HarbourText$TextReader" (106 : Nat) ({ cls := "HarbourText$TextReader", name := "signHere", desc := "()I" } : Jvm.MethodName)) ∈ lw_good := gd_t (tb_2 (List.mem_of_getElem? (i := 24) rfl)) rfl
theorem w_254 : (Jvm.Cond.instanceMethod ({ cls := "HarbourText$TextReader", name := "signHere", desc := "()I" } : Jvm.MethodName)) ∈ lw_good := gd_t (tb_2 (List.mem_of_getElem? (i := 26) rfl)) rfl
theorem w_255 : (Jvm.Cond.code ({ cls := "HarbourText$TextReader", name := "signHere", desc := "()I" } : Jvm.MethodName) prog_5_method_17_code (1 : Nat) (Option.some Jvm.ClassFile.FieldType.int)) ∈ lw_good := gd_t (tb_2 (List.mem_of_getElem? (i := 27) rfl)) rfl
theorem w_256 : (Jvm.Cond.methodLink "HarbourText$TextReader" (46 : Nat) ({ cls := "HarbourText$TextReader", name := "fail", desc := "(II)Z" } : Jvm.MethodName)) ∈ lw_good := gd_t (tb_2 (List.mem_of_getElem? (i := 30) rfl)) rfl
theorem w_257 : (Jvm.Cond.instanceMethod ({ cls := "HarbourText$TextReader", name := "fail", desc := "(II)Z" } : Jvm.MethodName)) ∈ lw_good := gd_t (tb_2 (List.mem_of_getElem? (i := 32) rfl)) rfl
theorem w_258 : (Jvm.Cond.code ({ cls := "HarbourText$TextReader", name := "fail", desc := "(II)Z" } : Jvm.MethodName) prog_5_method_18_code (3 : Nat) (Option.some Jvm.ClassFile.FieldType.boolean)) ∈ lw_good := gd_t (tb_2 (List.mem_of_getElem? (i := 33) rfl)) rfl
theorem w_259 : (Jvm.Cond.methodLink "HarbourText$TextReader" (50 : Nat) ({ cls := "HarbourText$Harbour", name := "isFull", desc := "()Z" } : Jvm.MethodName)) ∈ lw_good := gd_t (tb_2 (List.mem_of_getElem? (i := 34) rfl)) rfl
theorem w_260 : (Jvm.Cond.instanceMethod ({ cls := "HarbourText$Harbour", name := "isFull", desc := "()Z" } : Jvm.MethodName)) ∈ lw_good := gd_t (tb_2 (List.mem_of_getElem? (i := 35) rfl)) rfl
theorem w_261 : (Jvm.Cond.selects "HarbourText$Harbour" ({ cls := "HarbourText$Harbour", name := "isFull", desc := "()Z" } : Jvm.MethodName) ({ cls := "HarbourText$Harbour", name := "isFull", desc := "()Z" } : Jvm.MethodName)) ∈ lw_good := gd_t (tb_2 (List.mem_of_getElem? (i := 36) rfl)) rfl
theorem w_262 : (Jvm.Cond.code ({ cls := "HarbourText$Harbour", name := "isFull", desc := "()Z" } : Jvm.MethodName) prog_3_method_3_code (1 : Nat) (Option.some Jvm.ClassFile.FieldType.boolean)) ∈ lw_good := gd_t (tb_2 (List.mem_of_getElem? (i := 37) rfl)) rfl
theorem w_263 : (Jvm.Cond.methodLink "HarbourText$TextReader" (53 : Nat) ({ cls := "HarbourText$TextReader", name := "readName", desc := "(I)Z" } : Jvm.MethodName)) ∈ lw_good := gd_t (tb_2 (List.mem_of_getElem? (i := 38) rfl)) rfl
theorem w_264 : (Jvm.Cond.instanceMethod ({ cls := "HarbourText$TextReader", name := "readName", desc := "(I)Z" } : Jvm.MethodName)) ∈ lw_good := gd_t (tb_2 (List.mem_of_getElem? (i := 40) rfl)) rfl
theorem w_265 : (Jvm.Cond.code ({ cls := "HarbourText$TextReader", name := "readName", desc := "(I)Z" } : Jvm.MethodName) prog_5_method_9_code (4 : Nat) (Option.some Jvm.ClassFile.FieldType.boolean)) ∈ lw_good := gd_t (tb_2 (List.mem_of_getElem? (i := 41) rfl)) rfl
theorem w_266 : (Jvm.Cond.methodLink "HarbourText$TextReader" (68 : Nat) ({ cls := "HarbourText$TextReader", name := "readDigits", desc := "()I" } : Jvm.MethodName)) ∈ lw_good := gd_t (tb_2 (List.mem_of_getElem? (i := 42) rfl)) rfl
theorem w_267 : (Jvm.Cond.instanceMethod ({ cls := "HarbourText$TextReader", name := "readDigits", desc := "()I" } : Jvm.MethodName)) ∈ lw_good := gd_t (tb_2 (List.mem_of_getElem? (i := 44) rfl)) rfl
theorem w_268 : (Jvm.Cond.code ({ cls := "HarbourText$TextReader", name := "readDigits", desc := "()I" } : Jvm.MethodName) prog_5_method_14_code (3 : Nat) (Option.some Jvm.ClassFile.FieldType.int)) ∈ lw_good := gd_t (tb_2 (List.mem_of_getElem? (i := 45) rfl)) rfl
theorem w_269 : (Jvm.Cond.methodLink "HarbourText$TextReader" (109 : Nat) ({ cls := "HarbourText$TextReader", name := "digitHere", desc := "()I" } : Jvm.MethodName)) ∈ lw_good := gd_t (tb_2 (List.mem_of_getElem? (i := 46) rfl)) rfl
theorem w_270 : (Jvm.Cond.instanceMethod ({ cls := "HarbourText$TextReader", name := "digitHere", desc := "()I" } : Jvm.MethodName)) ∈ lw_good := gd_t (tb_2 (List.mem_of_getElem? (i := 48) rfl)) rfl
theorem w_271 : (Jvm.Cond.code ({ cls := "HarbourText$TextReader", name := "digitHere", desc := "()I" } : Jvm.MethodName) prog_5_method_15_code (2 : Nat) (Option.some Jvm.ClassFile.FieldType.int)) ∈ lw_good := gd_t (tb_2 (List.mem_of_getElem? (i := 49) rfl)) rfl
theorem w_272 : (Jvm.Cond.methodLink "HarbourText$TextReader" (71 : Nat) ({ cls := "HarbourText$Harbour", name := "indexOf", desc := "(II)I" } : Jvm.MethodName)) ∈ lw_good := gd_t (tb_2 (List.mem_of_getElem? (i := 50) rfl)) rfl
theorem w_273 : (Jvm.Cond.methodLink "HarbourText$TextReader" (75 : Nat) ({ cls := "HarbourText$Harbour", name := "begin", desc := "(II)V" } : Jvm.MethodName)) ∈ lw_good := gd_t (tb_2 (List.mem_of_getElem? (i := 51) rfl)) rfl
theorem w_274 : (Jvm.Cond.instanceMethod ({ cls := "HarbourText$Harbour", name := "begin", desc := "(II)V" } : Jvm.MethodName)) ∈ lw_good := gd_t (tb_2 (List.mem_of_getElem? (i := 52) rfl)) rfl
theorem w_275 : (Jvm.Cond.selects "HarbourText$Harbour" ({ cls := "HarbourText$Harbour", name := "begin", desc := "(II)V" } : Jvm.MethodName) ({ cls := "HarbourText$Harbour", name := "begin", desc := "(II)V" } : Jvm.MethodName)) ∈ lw_good := gd_t (tb_2 (List.mem_of_getElem? (i := 53) rfl)) rfl
theorem w_276 : (Jvm.Cond.code ({ cls := "HarbourText$Harbour", name := "begin", desc := "(II)V" } : Jvm.MethodName) prog_3_method_5_code (3 : Nat) (Option.none : Option Jvm.ClassFile.FieldType)) ∈ lw_good := gd_t (tb_2 (List.mem_of_getElem? (i := 54) rfl)) rfl
theorem w_277 : (Jvm.Cond.methodLink "HarbourText$Harbour" (25 : Nat) ({ cls := "HarbourText$Harbour", name := "isFull", desc := "()Z" } : Jvm.MethodName)) ∈ lw_good := gd_t (tb_2 (List.mem_of_getElem? (i := 55) rfl)) rfl
theorem w_278 : (Jvm.Cond.methodLink "HarbourText$TextReader" (57 : Nat) ({ cls := "HarbourText$TextReader", name := "readSign", desc := "(C)Z" } : Jvm.MethodName)) ∈ lw_good := gd_t (tb_2 (List.mem_of_getElem? (i := 56) rfl)) rfl
theorem w_279 : (Jvm.Cond.instanceMethod ({ cls := "HarbourText$TextReader", name := "readSign", desc := "(C)Z" } : Jvm.MethodName)) ∈ lw_good := gd_t (tb_2 (List.mem_of_getElem? (i := 58) rfl)) rfl
theorem w_280 : (Jvm.Cond.code ({ cls := "HarbourText$TextReader", name := "readSign", desc := "(C)Z" } : Jvm.MethodName) prog_5_method_13_code (2 : Nat) (Option.some Jvm.ClassFile.FieldType.boolean)) ∈ lw_good := gd_t (tb_2 (List.mem_of_getElem? (i := 59) rfl)) rfl
theorem w_281 : (Jvm.Cond.methodLink "HarbourText$TextReader" (65 : Nat) ({ cls := "HarbourText$TextReader", name := "readNumber", desc := "(II)Z" } : Jvm.MethodName)) ∈ lw_good := gd_t (tb_2 (List.mem_of_getElem? (i := 61) rfl)) rfl
theorem w_282 : (Jvm.Cond.instanceMethod ({ cls := "HarbourText$TextReader", name := "readNumber", desc := "(II)Z" } : Jvm.MethodName)) ∈ lw_good := gd_t (tb_2 (List.mem_of_getElem? (i := 63) rfl)) rfl
theorem w_283 : (Jvm.Cond.code ({ cls := "HarbourText$TextReader", name := "readNumber", desc := "(II)Z" } : Jvm.MethodName) prog_5_method_10_code (6 : Nat) (Option.some Jvm.ClassFile.FieldType.boolean)) ∈ lw_good := gd_t (tb_2 (List.mem_of_getElem? (i := 64) rfl)) rfl
theorem w_284 : (Jvm.Cond.methodLink "HarbourText$TextReader" (79 : Nat) ({ cls := "HarbourText$TextReader", name := "judgeNumber", desc := "(III)I" } : Jvm.MethodName)) ∈ lw_good := gd_t (tb_2 (List.mem_of_getElem? (i := 65) rfl)) rfl
theorem w_285 : (Jvm.Cond.instanceMethod ({ cls := "HarbourText$TextReader", name := "judgeNumber", desc := "(III)I" } : Jvm.MethodName)) ∈ lw_good := gd_t (tb_2 (List.mem_of_getElem? (i := 67) rfl)) rfl
theorem w_286 : (Jvm.Cond.code ({ cls := "HarbourText$TextReader", name := "judgeNumber", desc := "(III)I" } : Jvm.MethodName) prog_5_method_11_code (4 : Nat) (Option.some Jvm.ClassFile.FieldType.int)) ∈ lw_good := gd_t (tb_2 (List.mem_of_getElem? (i := 68) rfl)) rfl
theorem w_287 : (Jvm.Cond.methodLink "HarbourText$TextReader" (86 : Nat) ({ cls := "HarbourText$TextReader", name := "isInRange", desc := "(III)Z" } : Jvm.MethodName)) ∈ lw_good := gd_t (tb_2 (List.mem_of_getElem? (i := 69) rfl)) rfl
theorem w_288 : (Jvm.Cond.static ({ cls := "HarbourText$TextReader", name := "isInRange", desc := "(III)Z" } : Jvm.MethodName)) ∈ lw_good := gd_t (tb_2 (List.mem_of_getElem? (i := 70) rfl)) rfl
theorem w_289 : (Jvm.Cond.code ({ cls := "HarbourText$TextReader", name := "isInRange", desc := "(III)Z" } : Jvm.MethodName) prog_5_method_12_code (4 : Nat) (Option.some Jvm.ClassFile.FieldType.boolean)) ∈ lw_good := gd_t (tb_2 (List.mem_of_getElem? (i := 71) rfl)) rfl
theorem w_290 : (Jvm.Cond.methodLink "HarbourText$TextReader" (90 : Nat) ({ cls := "HarbourText$Harbour", name := "size", desc := "()I" } : Jvm.MethodName)) ∈ lw_good := gd_t (tb_2 (List.mem_of_getElem? (i := 77) rfl)) rfl
theorem w_291 : (Jvm.Cond.methodLink "HarbourText$TextReader" (93 : Nat) ({ cls := "HarbourText$Harbour", name := "numberOf", desc := "(II)I" } : Jvm.MethodName)) ∈ lw_good := gd_t (tb_2 (List.mem_of_getElem? (i := 78) rfl)) rfl
theorem w_292 : (Jvm.Cond.methodLink "HarbourText$TextReader" (83 : Nat) ({ cls := "HarbourText$Harbour", name := "setNumber", desc := "(II)V" } : Jvm.MethodName)) ∈ lw_good := gd_t (tb_2 (List.mem_of_getElem? (i := 79) rfl)) rfl
theorem w_293 : (Jvm.Cond.instanceMethod ({ cls := "HarbourText$Harbour", name := "setNumber", desc := "(II)V" } : Jvm.MethodName)) ∈ lw_good := gd_t (tb_2 (List.mem_of_getElem? (i := 80) rfl)) rfl
theorem w_294 : (Jvm.Cond.selects "HarbourText$Harbour" ({ cls := "HarbourText$Harbour", name := "setNumber", desc := "(II)V" } : Jvm.MethodName) ({ cls := "HarbourText$Harbour", name := "setNumber", desc := "(II)V" } : Jvm.MethodName)) ∈ lw_good := gd_t (tb_2 (List.mem_of_getElem? (i := 81) rfl)) rfl
theorem w_295 : (Jvm.Cond.code ({ cls := "HarbourText$Harbour", name := "setNumber", desc := "(II)V" } : Jvm.MethodName) prog_3_method_6_code (3 : Nat) (Option.none : Option Jvm.ClassFile.FieldType)) ∈ lw_good := gd_t (tb_2 (List.mem_of_getElem? (i := 82) rfl)) rfl
theorem w_296 : (Jvm.Cond.classLink "HarbourText" (55 : Nat) "java/lang/IllegalStateException") ∈ lw_good := gd_t (tb_2 (List.mem_of_getElem? (i := 83) rfl)) rfl
theorem w_297 : (Jvm.Cond.instantiable "java/lang/IllegalStateException" (6 : Nat)) ∈ lw_good := gd_t (tb_2 (List.mem_of_getElem? (i := 84) rfl)) rfl
theorem w_298 : (Jvm.Cond.selects "java/lang/IllegalStateException" ({ cls := "java/lang/Throwable", name := "fillInStackTrace", desc := "(I)Ljava/lang/Throwable;" } : Jvm.MethodName) ({ cls := "java/lang/Throwable", name := "fillInStackTrace", desc := "(I)Ljava/lang/Throwable;" } : Jvm.MethodName)) ∈ lw_good := gd_t (tb_2 (List.mem_of_getElem? (i := 92) rfl)) rfl
theorem w_299 : (Jvm.Cond.selects "java/lang/IllegalStateException" ({ cls := "java/lang/Throwable", name := "fillInStackTrace", desc := "()Ljava/lang/Throwable;" } : Jvm.MethodName) ({ cls := "java/lang/Throwable", name := "fillInStackTrace", desc := "()Ljava/lang/Throwable;" } : Jvm.MethodName)) ∈ lw_good := gd_t (tb_2 (List.mem_of_getElem? (i := 93) rfl)) rfl
theorem w_300 : (Jvm.Cond.lays "java/lang/IllegalStateException" "java/lang/Throwable" "cause" "Ljava/lang/Throwable;") ∈ lw_good := gd_t (tb_2 (List.mem_of_getElem? (i := 94) rfl)) rfl
theorem w_301 : (Jvm.Cond.lays "java/lang/Throwable" "java/lang/Throwable" "cause" "Ljava/lang/Throwable;") ∈ lw_good := gd_t (tb_2 (List.mem_of_getElem? (i := 95) rfl)) rfl
theorem w_302 : (Jvm.Cond.lays "java/lang/IllegalStateException" "java/lang/Throwable" "stackTrace" "[Ljava/lang/StackTraceElement;") ∈ lw_good := gd_t (tb_2 (List.mem_of_getElem? (i := 96) rfl)) rfl
theorem w_303 : (Jvm.Cond.lays "java/lang/Throwable" "java/lang/Throwable" "stackTrace" "[Ljava/lang/StackTraceElement;") ∈ lw_good := gd_t (tb_2 (List.mem_of_getElem? (i := 97) rfl)) rfl
theorem w_304 : (Jvm.Cond.lays "java/lang/IllegalStateException" "java/lang/Throwable" "suppressedExceptions" "Ljava/util/List;") ∈ lw_good := gd_t (tb_2 (List.mem_of_getElem? (i := 98) rfl)) rfl
theorem w_305 : (Jvm.Cond.lays "java/lang/Throwable" "java/lang/Throwable" "suppressedExceptions" "Ljava/util/List;") ∈ lw_good := gd_t (tb_2 (List.mem_of_getElem? (i := 99) rfl)) rfl
theorem w_306 : (Jvm.Cond.lays "java/lang/IllegalStateException" "java/lang/Throwable" "detailMessage" "Ljava/lang/String;") ∈ lw_good := gd_t (tb_2 (List.mem_of_getElem? (i := 100) rfl)) rfl
theorem w_307 : (Jvm.Cond.lays "java/lang/Throwable" "java/lang/Throwable" "detailMessage" "Ljava/lang/String;") ∈ lw_good := gd_t (tb_2 (List.mem_of_getElem? (i := 101) rfl)) rfl
theorem w_308 : (Jvm.Cond.lays "java/lang/IllegalStateException" "java/lang/Throwable" "backtrace" "Ljava/lang/Object;") ∈ lw_good := gd_t (tb_2 (List.mem_of_getElem? (i := 102) rfl)) rfl
theorem w_309 : (Jvm.Cond.lays "java/lang/Throwable" "java/lang/Throwable" "backtrace" "Ljava/lang/Object;") ∈ lw_good := gd_t (tb_2 (List.mem_of_getElem? (i := 103) rfl)) rfl
theorem w_310 : (Jvm.Cond.fieldLink "java/lang/Throwable" (198 : Nat) "java/lang/Throwable" "backtrace" "Ljava/lang/Object;") ∈ lw_good := gd_t (tb_2 (List.mem_of_getElem? (i := 104) rfl)) rfl
theorem w_311 : (Jvm.Cond.superclass "java/lang/Throwable" "java/lang/Object") ∈ lw_good := gd_t (tb_2 (List.mem_of_getElem? (i := 105) rfl)) rfl
theorem w_312 : (Jvm.Cond.instanceMethod ({ cls := "java/lang/Throwable", name := "<init>", desc := "()V" } : Jvm.MethodName)) ∈ lw_good := gd_t (tb_2 (List.mem_of_getElem? (i := 106) rfl)) rfl
theorem w_313 : (Jvm.Cond.code ({ cls := "java/lang/Throwable", name := "<init>", desc := "()V" } : Jvm.MethodName) prog_17_method_1_code (1 : Nat) (Option.none : Option Jvm.ClassFile.FieldType)) ∈ lw_good := gd_t (tb_2 (List.mem_of_getElem? (i := 107) rfl)) rfl
theorem w_314 : (Jvm.Cond.methodLink "java/lang/Throwable" (1 : Nat) ({ cls := "java/lang/Object", name := "<init>", desc := "()V" } : Jvm.MethodName)) ∈ lw_good := gd_t (tb_2 (List.mem_of_getElem? (i := 108) rfl)) rfl
theorem w_315 : (Jvm.Cond.fieldLink "java/lang/Throwable" (13 : Nat) "java/lang/Throwable" "UNASSIGNED_STACK" "[Ljava/lang/StackTraceElement;") ∈ lw_good := gd_t (tb_2 (List.mem_of_getElem? (i := 109) rfl)) rfl
theorem w_316 : (Jvm.Cond.fieldLink "java/lang/Throwable" (20 : Nat) "java/lang/Throwable" "SUPPRESSED_SENTINEL" "Ljava/util/List;") ∈ lw_good := gd_t (tb_2 (List.mem_of_getElem? (i := 111) rfl)) rfl
theorem w_317 : (Jvm.Cond.methodLink "java/lang/Throwable" (27 : Nat) ({ cls := "java/lang/Throwable", name := "fillInStackTrace", desc := "()Ljava/lang/Throwable;" } : Jvm.MethodName)) ∈ lw_good := gd_t (tb_2 (List.mem_of_getElem? (i := 113) rfl)) rfl
theorem w_318 : (Jvm.Cond.instanceMethod ({ cls := "java/lang/Throwable", name := "fillInStackTrace", desc := "()Ljava/lang/Throwable;" } : Jvm.MethodName)) ∈ lw_good := gd_t (tb_2 (List.mem_of_getElem? (i := 114) rfl)) rfl
theorem w_319 : (Jvm.Cond.sameMethod "java/lang/Throwable" "java/lang/Throwable" "fillInStackTrace" "()Ljava/lang/Throwable;") ∈ lw_good := gd_t (tb_2 (List.mem_of_getElem? (i := 115) rfl)) rfl
theorem w_320 : (Jvm.Cond.selects "java/lang/IllegalArgumentException" ({ cls := "java/lang/Throwable", name := "fillInStackTrace", desc := "()Ljava/lang/Throwable;" } : Jvm.MethodName) ({ cls := "java/lang/Throwable", name := "fillInStackTrace", desc := "()Ljava/lang/Throwable;" } : Jvm.MethodName)) ∈ lw_good := gd_t (tb_2 (List.mem_of_getElem? (i := 116) rfl)) rfl
theorem w_321 : (Jvm.Cond.selects "java/lang/IndexOutOfBoundsException" ({ cls := "java/lang/Throwable", name := "fillInStackTrace", desc := "()Ljava/lang/Throwable;" } : Jvm.MethodName) ({ cls := "java/lang/Throwable", name := "fillInStackTrace", desc := "()Ljava/lang/Throwable;" } : Jvm.MethodName)) ∈ lw_good := gd_t (tb_2 (List.mem_of_getElem? (i := 117) rfl)) rfl
theorem w_322 : (Jvm.Cond.codeSync ({ cls := "java/lang/Throwable", name := "fillInStackTrace", desc := "()Ljava/lang/Throwable;" } : Jvm.MethodName) prog_17_method_18_code (1 : Nat) (Option.some (Jvm.ClassFile.FieldType.object "java/lang/Throwable"))) ∈ lw_good := gd_t (tb_2 (List.mem_of_getElem? (i := 118) rfl)) rfl
theorem w_323 : (Jvm.Cond.methodLink "java/lang/Throwable" (202 : Nat) ({ cls := "java/lang/Throwable", name := "fillInStackTrace", desc := "(I)Ljava/lang/Throwable;" } : Jvm.MethodName)) ∈ lw_good := gd_t (tb_2 (List.mem_of_getElem? (i := 119) rfl)) rfl
theorem w_324 : (Jvm.Cond.instanceMethod ({ cls := "java/lang/Throwable", name := "fillInStackTrace", desc := "(I)Ljava/lang/Throwable;" } : Jvm.MethodName)) ∈ lw_good := gd_t (tb_2 (List.mem_of_getElem? (i := 121) rfl)) rfl
theorem w_325 : (Jvm.Cond.instantiable "java/lang/Throwable" (6 : Nat)) ∈ lw_good := gd_t (tb_2 (List.mem_of_getElem? (i := 122) rfl)) rfl
theorem w_326 : (Jvm.Cond.native ({ cls := "java/lang/Throwable", name := "fillInStackTrace", desc := "(I)Ljava/lang/Throwable;" } : Jvm.MethodName)) ∈ lw_good := gd_t (tb_2 (List.mem_of_getElem? (i := 123) rfl)) rfl
theorem w_327 : (Jvm.Cond.methodLink "HarbourText" (59 : Nat) ({ cls := "java/lang/IllegalStateException", name := "<init>", desc := "(Ljava/lang/String;)V" } : Jvm.MethodName)) ∈ lw_good := gd_t (tb_2 (List.mem_of_getElem? (i := 125) rfl)) rfl
theorem w_328 : (Jvm.Cond.instanceMethod ({ cls := "java/lang/IllegalStateException", name := "<init>", desc := "(Ljava/lang/String;)V" } : Jvm.MethodName)) ∈ lw_good := gd_t (tb_2 (List.mem_of_getElem? (i := 126) rfl)) rfl
theorem w_329 : (Jvm.Cond.code ({ cls := "java/lang/IllegalStateException", name := "<init>", desc := "(Ljava/lang/String;)V" } : Jvm.MethodName) prog_11_method_2_code (2 : Nat) (Option.none : Option Jvm.ClassFile.FieldType)) ∈ lw_good := gd_t (tb_2 (List.mem_of_getElem? (i := 127) rfl)) rfl
theorem w_330 : (Jvm.Cond.methodLink "java/lang/IllegalStateException" (7 : Nat) ({ cls := "java/lang/RuntimeException", name := "<init>", desc := "(Ljava/lang/String;)V" } : Jvm.MethodName)) ∈ lw_good := gd_t (tb_2 (List.mem_of_getElem? (i := 128) rfl)) rfl
theorem w_331 : (Jvm.Cond.instanceMethod ({ cls := "java/lang/RuntimeException", name := "<init>", desc := "(Ljava/lang/String;)V" } : Jvm.MethodName)) ∈ lw_good := gd_t (tb_2 (List.mem_of_getElem? (i := 129) rfl)) rfl
theorem w_332 : (Jvm.Cond.code ({ cls := "java/lang/RuntimeException", name := "<init>", desc := "(Ljava/lang/String;)V" } : Jvm.MethodName) prog_14_method_2_code (2 : Nat) (Option.none : Option Jvm.ClassFile.FieldType)) ∈ lw_good := gd_t (tb_2 (List.mem_of_getElem? (i := 130) rfl)) rfl
theorem w_333 : (Jvm.Cond.methodLink "java/lang/RuntimeException" (7 : Nat) ({ cls := "java/lang/Exception", name := "<init>", desc := "(Ljava/lang/String;)V" } : Jvm.MethodName)) ∈ lw_good := gd_t (tb_2 (List.mem_of_getElem? (i := 131) rfl)) rfl
theorem w_334 : (Jvm.Cond.instanceMethod ({ cls := "java/lang/Exception", name := "<init>", desc := "(Ljava/lang/String;)V" } : Jvm.MethodName)) ∈ lw_good := gd_t (tb_2 (List.mem_of_getElem? (i := 132) rfl)) rfl
theorem w_335 : (Jvm.Cond.code ({ cls := "java/lang/Exception", name := "<init>", desc := "(Ljava/lang/String;)V" } : Jvm.MethodName) prog_9_method_2_code (2 : Nat) (Option.none : Option Jvm.ClassFile.FieldType)) ∈ lw_good := gd_t (tb_2 (List.mem_of_getElem? (i := 133) rfl)) rfl
theorem w_336 : (Jvm.Cond.methodLink "java/lang/Exception" (7 : Nat) ({ cls := "java/lang/Throwable", name := "<init>", desc := "(Ljava/lang/String;)V" } : Jvm.MethodName)) ∈ lw_good := gd_t (tb_2 (List.mem_of_getElem? (i := 134) rfl)) rfl
theorem w_337 : (Jvm.Cond.instanceMethod ({ cls := "java/lang/Throwable", name := "<init>", desc := "(Ljava/lang/String;)V" } : Jvm.MethodName)) ∈ lw_good := gd_t (tb_2 (List.mem_of_getElem? (i := 135) rfl)) rfl
theorem w_338 : (Jvm.Cond.code ({ cls := "java/lang/Throwable", name := "<init>", desc := "(Ljava/lang/String;)V" } : Jvm.MethodName) prog_17_method_2_code (2 : Nat) (Option.none : Option Jvm.ClassFile.FieldType)) ∈ lw_good := gd_t (tb_2 (List.mem_of_getElem? (i := 136) rfl)) rfl
theorem w_339 : (Jvm.Cond.fieldLink "java/lang/Throwable" (31 : Nat) "java/lang/Throwable" "detailMessage" "Ljava/lang/String;") ∈ lw_good := gd_t (tb_2 (List.mem_of_getElem? (i := 138) rfl)) rfl
theorem w_340 : (Jvm.Cond.fieldLink "java/lang/Throwable" (7 : Nat) "java/lang/Throwable" "cause" "Ljava/lang/Throwable;") ∈ lw_good := gd_t (tb_2 (List.mem_of_getElem? (i := 139) rfl)) rfl
theorem w_341 : (Jvm.Cond.fieldLink "java/lang/Throwable" (17 : Nat) "java/lang/Throwable" "stackTrace" "[Ljava/lang/StackTraceElement;") ∈ lw_good := gd_t (tb_2 (List.mem_of_getElem? (i := 140) rfl)) rfl
theorem w_342 : (Jvm.Cond.fieldLink "java/lang/Throwable" (24 : Nat) "java/lang/Throwable" "suppressedExceptions" "Ljava/util/List;") ∈ lw_good := gd_t (tb_2 (List.mem_of_getElem? (i := 141) rfl)) rfl
theorem w_343 : (Jvm.Cond.soleField "java/lang/Throwable" "backtrace") ∈ lw_good := gd_t (tb_2 (List.mem_of_getElem? (i := 142) rfl)) rfl
theorem w_344 : (Jvm.Cond.soleField "java/lang/Throwable" "detailMessage") ∈ lw_good := gd_t (tb_2 (List.mem_of_getElem? (i := 143) rfl)) rfl
theorem w_345 : (Jvm.Cond.soleField "java/lang/Throwable" "cause") ∈ lw_good := gd_t (tb_2 (List.mem_of_getElem? (i := 144) rfl)) rfl
theorem w_346 : (Jvm.Cond.soleField "java/lang/Throwable" "stackTrace") ∈ lw_good := gd_t (tb_2 (List.mem_of_getElem? (i := 145) rfl)) rfl
theorem w_347 : (Jvm.Cond.lays "java/lang/IllegalStateException" "java/lang/Throwable" "depth" "I") ∈ lw_good := gd_t (tb_2 (List.mem_of_getElem? (i := 146) rfl)) rfl
theorem w_348 : (Jvm.Cond.soleField "java/lang/Throwable" "depth") ∈ lw_good := gd_t (tb_2 (List.mem_of_getElem? (i := 147) rfl)) rfl
theorem w_349 : (Jvm.Cond.soleField "java/lang/Throwable" "suppressedExceptions") ∈ lw_good := gd_t (tb_2 (List.mem_of_getElem? (i := 148) rfl)) rfl
theorem w_350 : (Jvm.Cond.superclass "java/lang/IllegalStateException" "java/lang/RuntimeException") ∈ lw_good := gd_t (tb_2 (List.mem_of_getElem? (i := 149) rfl)) rfl
theorem w_351 : (Jvm.Cond.arrayClass Jvm.ClassFile.FieldType.byte) ∈ lw_good := gd_t (tb_2 (List.mem_of_getElem? (i := 150) rfl)) rfl
theorem w_352 : (Jvm.Cond.methodLink "HarbourText" (62 : Nat) ({ cls := "HarbourText$TextReader", name := "result", desc := "()LHarbourText$Harbour;" } : Jvm.MethodName)) ∈ lw_good := gd_t (tb_2 (List.mem_of_getElem? (i := 151) rfl)) rfl
theorem w_353 : (Jvm.Cond.instanceMethod ({ cls := "HarbourText$TextReader", name := "result", desc := "()LHarbourText$Harbour;" } : Jvm.MethodName)) ∈ lw_good := gd_t (tb_2 (List.mem_of_getElem? (i := 152) rfl)) rfl
theorem w_354 : (Jvm.Cond.selects "HarbourText$TextReader" ({ cls := "HarbourText$TextReader", name := "result", desc := "()LHarbourText$Harbour;" } : Jvm.MethodName) ({ cls := "HarbourText$TextReader", name := "result", desc := "()LHarbourText$Harbour;" } : Jvm.MethodName)) ∈ lw_good := gd_t (tb_2 (List.mem_of_getElem? (i := 153) rfl)) rfl
theorem w_355 : (Jvm.Cond.code ({ cls := "HarbourText$TextReader", name := "result", desc := "()LHarbourText$Harbour;" } : Jvm.MethodName) prog_5_method_5_code (1 : Nat) (Option.some (Jvm.ClassFile.FieldType.object "HarbourText$Harbour"))) ∈ lw_good := gd_t (tb_2 (List.mem_of_getElem? (i := 154) rfl)) rfl
theorem w_356 : (Jvm.Cond.methodLink "HarbourText" (70 : Nat) ({ cls := "HarbourText$BadList", name := "judge", desc := "(LHarbourText$Harbour;LHarbourText$Ways;)V" } : Jvm.MethodName)) ∈ lw_good := gd_t (tb_2 (List.mem_of_getElem? (i := 155) rfl)) rfl
theorem w_357 : (Jvm.Cond.instanceMethod ({ cls := "HarbourText$BadList", name := "judge", desc := "(LHarbourText$Harbour;LHarbourText$Ways;)V" } : Jvm.MethodName)) ∈ lw_good := gd_t (tb_2 (List.mem_of_getElem? (i := 156) rfl)) rfl
theorem w_358 : (Jvm.Cond.selects "HarbourText$BadList" ({ cls := "HarbourText$BadList", name := "judge", desc := "(LHarbourText$Harbour;LHarbourText$Ways;)V" } : Jvm.MethodName) ({ cls := "HarbourText$BadList", name := "judge", desc := "(LHarbourText$Harbour;LHarbourText$Ways;)V" } : Jvm.MethodName)) ∈ lw_good := gd_t (tb_2 (List.mem_of_getElem? (i := 157) rfl)) rfl
theorem w_359 : (Jvm.Cond.code ({ cls := "HarbourText$BadList", name := "judge", desc := "(LHarbourText$Harbour;LHarbourText$Ways;)V" } : Jvm.MethodName) prog_2_method_4_code (4 : Nat) (Option.none : Option Jvm.ClassFile.FieldType)) ∈ lw_good := gd_t (tb_2 (List.mem_of_getElem? (i := 158) rfl)) rfl
theorem w_360 : (Jvm.Cond.methodLink "HarbourText$BadList" (19 : Nat) ({ cls := "HarbourText$Ways", name := "spread", desc := "(LHarbourText$Harbour;II)V" } : Jvm.MethodName)) ∈ lw_good := gd_t (tb_2 (List.mem_of_getElem? (i := 159) rfl)) rfl
theorem w_361 : (Jvm.Cond.instanceMethod ({ cls := "HarbourText$Ways", name := "spread", desc := "(LHarbourText$Harbour;II)V" } : Jvm.MethodName)) ∈ lw_good := gd_t (tb_2 (List.mem_of_getElem? (i := 160) rfl)) rfl
theorem w_362 : (Jvm.Cond.selects "HarbourText$Ways" ({ cls := "HarbourText$Ways", name := "spread", desc := "(LHarbourText$Harbour;II)V" } : Jvm.MethodName) ({ cls := "HarbourText$Ways", name := "spread", desc := "(LHarbourText$Harbour;II)V" } : Jvm.MethodName)) ∈ lw_good := gd_t (tb_2 (List.mem_of_getElem? (i := 161) rfl)) rfl
theorem w_363 : (Jvm.Cond.code ({ cls := "HarbourText$Ways", name := "spread", desc := "(LHarbourText$Harbour;II)V" } : Jvm.MethodName) prog_6_method_3_code (6 : Nat) (Option.none : Option Jvm.ClassFile.FieldType)) ∈ lw_good := gd_t (tb_2 (List.mem_of_getElem? (i := 162) rfl)) rfl
theorem w_364 : (Jvm.Cond.methodLink "HarbourText$Ways" (19 : Nat) ({ cls := "HarbourText$Ways", name := "spreadOnce", desc := "(LHarbourText$Harbour;I)Z" } : Jvm.MethodName)) ∈ lw_good := gd_t (tb_2 (List.mem_of_getElem? (i := 163) rfl)) rfl
theorem w_365 : (Jvm.Cond.instanceMethod ({ cls := "HarbourText$Ways", name := "spreadOnce", desc := "(LHarbourText$Harbour;I)Z" } : Jvm.MethodName)) ∈ lw_good := gd_t (tb_2 (List.mem_of_getElem? (i := 165) rfl)) rfl
theorem w_366 : (Jvm.Cond.code ({ cls := "HarbourText$Ways", name := "spreadOnce", desc := "(LHarbourText$Harbour;I)Z" } : Jvm.MethodName) prog_6_method_4_code (6 : Nat) (Option.some Jvm.ClassFile.FieldType.boolean)) ∈ lw_good := gd_t (tb_2 (List.mem_of_getElem? (i := 166) rfl)) rfl
theorem w_367 : (Jvm.Cond.methodLink "HarbourText$Ways" (23 : Nat) ({ cls := "HarbourText$Harbour", name := "size", desc := "()I" } : Jvm.MethodName)) ∈ lw_good := gd_t (tb_2 (List.mem_of_getElem? (i := 167) rfl)) rfl
theorem w_368 : (Jvm.Cond.methodLink "HarbourText$Ways" (29 : Nat) ({ cls := "HarbourText$Harbour", name := "kindOf", desc := "(I)I" } : Jvm.MethodName)) ∈ lw_good := gd_t (tb_2 (List.mem_of_getElem? (i := 168) rfl)) rfl
theorem w_369 : (Jvm.Cond.methodLink "HarbourText$Ways" (33 : Nat) ({ cls := "HarbourText$Ways", name := "spreadAlong", desc := "(LHarbourText$Harbour;I)Z" } : Jvm.MethodName)) ∈ lw_good := gd_t (tb_2 (List.mem_of_getElem? (i := 169) rfl)) rfl
theorem w_370 : (Jvm.Cond.instanceMethod ({ cls := "HarbourText$Ways", name := "spreadAlong", desc := "(LHarbourText$Harbour;I)Z" } : Jvm.MethodName)) ∈ lw_good := gd_t (tb_2 (List.mem_of_getElem? (i := 171) rfl)) rfl
theorem w_371 : (Jvm.Cond.code ({ cls := "HarbourText$Ways", name := "spreadAlong", desc := "(LHarbourText$Harbour;I)Z" } : Jvm.MethodName) prog_6_method_5_code (6 : Nat) (Option.some Jvm.ClassFile.FieldType.boolean)) ∈ lw_good := gd_t (tb_2 (List.mem_of_getElem? (i := 172) rfl)) rfl
theorem w_372 : (Jvm.Cond.methodLink "HarbourText$Ways" (36 : Nat) ({ cls := "HarbourText$Harbour", name := "numberOf", desc := "(II)I" } : Jvm.MethodName)) ∈ lw_good := gd_t (tb_2 (List.mem_of_getElem? (i := 173) rfl)) rfl
theorem w_373 : (Jvm.Cond.methodLink "HarbourText$Ways" (40 : Nat) ({ cls := "HarbourText$Ways", name := "deepen", desc := "(III)Z" } : Jvm.MethodName)) ∈ lw_good := gd_t (tb_2 (List.mem_of_getElem? (i := 174) rfl)) rfl
theorem w_374 : (Jvm.Cond.instanceMethod ({ cls := "HarbourText$Ways", name := "deepen", desc := "(III)Z" } : Jvm.MethodName)) ∈ lw_good := gd_t (tb_2 (List.mem_of_getElem? (i := 176) rfl)) rfl
theorem w_375 : (Jvm.Cond.code ({ cls := "HarbourText$Ways", name := "deepen", desc := "(III)Z" } : Jvm.MethodName) prog_6_method_6_code (5 : Nat) (Option.some Jvm.ClassFile.FieldType.boolean)) ∈ lw_good := gd_t (tb_2 (List.mem_of_getElem? (i := 177) rfl)) rfl
theorem w_376 : (Jvm.Cond.static ({ cls := "HarbourText", name := "isPoint", desc := "(I)Z" } : Jvm.MethodName)) ∈ lw_good := gd_t (tb_2 (List.mem_of_getElem? (i := 179) rfl)) rfl
theorem w_377 : (Jvm.Cond.code ({ cls := "HarbourText", name := "isPoint", desc := "(I)Z" } : Jvm.MethodName) prog_1_method_16_code (1 : Nat) (Option.some Jvm.ClassFile.FieldType.boolean)) ∈ lw_good := gd_t (tb_2 (List.mem_of_getElem? (i := 180) rfl)) rfl
theorem w_378 : (Jvm.Cond.methodLink "HarbourText$Ways" (44 : Nat) ({ cls := "java/lang/Math", name := "min", desc := "(II)I" } : Jvm.MethodName)) ∈ lw_good := gd_t (tb_2 (List.mem_of_getElem? (i := 181) rfl)) rfl
theorem w_379 : (Jvm.Cond.static ({ cls := "java/lang/Math", name := "min", desc := "(II)I" } : Jvm.MethodName)) ∈ lw_good := gd_t (tb_2 (List.mem_of_getElem? (i := 182) rfl)) rfl
theorem w_380 : (Jvm.Cond.code ({ cls := "java/lang/Math", name := "min", desc := "(II)I" } : Jvm.MethodName) prog_13_method_69_code (2 : Nat) (Option.some Jvm.ClassFile.FieldType.int)) ∈ lw_good := gd_t (tb_2 (List.mem_of_getElem? (i := 183) rfl)) rfl
theorem w_381 : (Jvm.Cond.methodLink "HarbourText$BadList" (25 : Nat) ({ cls := "HarbourText$BadList", name := "addAll", desc := "(LHarbourText$Harbour;LHarbourText$Ways;I)V" } : Jvm.MethodName)) ∈ lw_good := gd_t (tb_2 (List.mem_of_getElem? (i := 184) rfl)) rfl
theorem w_382 : (Jvm.Cond.instanceMethod ({ cls := "HarbourText$BadList", name := "addAll", desc := "(LHarbourText$Harbour;LHarbourText$Ways;I)V" } : Jvm.MethodName)) ∈ lw_good := gd_t (tb_2 (List.mem_of_getElem? (i := 186) rfl)) rfl
theorem w_383 : (Jvm.Cond.code ({ cls := "HarbourText$BadList", name := "addAll", desc := "(LHarbourText$Harbour;LHarbourText$Ways;I)V" } : Jvm.MethodName) prog_2_method_5_code (6 : Nat) (Option.none : Option Jvm.ClassFile.FieldType)) ∈ lw_good := gd_t (tb_2 (List.mem_of_getElem? (i := 187) rfl)) rfl
theorem w_384 : (Jvm.Cond.methodLink "HarbourText$BadList" (29 : Nat) ({ cls := "HarbourText$Harbour", name := "size", desc := "()I" } : Jvm.MethodName)) ∈ lw_good := gd_t (tb_2 (List.mem_of_getElem? (i := 188) rfl)) rfl
theorem w_385 : (Jvm.Cond.methodLink "HarbourText$BadList" (34 : Nat) ({ cls := "HarbourText$BadList", name := "holds", desc := "(LHarbourText$Harbour;LHarbourText$Ways;II)Z" } : Jvm.MethodName)) ∈ lw_good := gd_t (tb_2 (List.mem_of_getElem? (i := 189) rfl)) rfl
theorem w_386 : (Jvm.Cond.static ({ cls := "HarbourText$BadList", name := "holds", desc := "(LHarbourText$Harbour;LHarbourText$Ways;II)Z" } : Jvm.MethodName)) ∈ lw_good := gd_t (tb_2 (List.mem_of_getElem? (i := 190) rfl)) rfl
theorem w_387 : (Jvm.Cond.code ({ cls := "HarbourText$BadList", name := "holds", desc := "(LHarbourText$Harbour;LHarbourText$Ways;II)Z" } : Jvm.MethodName) prog_2_method_6_code (6 : Nat) (Option.some Jvm.ClassFile.FieldType.boolean)) ∈ lw_good := gd_t (tb_2 (List.mem_of_getElem? (i := 191) rfl)) rfl
theorem w_388 : (Jvm.Cond.methodLink "HarbourText$BadList" (38 : Nat) ({ cls := "HarbourText$Harbour", name := "kindOf", desc := "(I)I" } : Jvm.MethodName)) ∈ lw_good := gd_t (tb_2 (List.mem_of_getElem? (i := 192) rfl)) rfl
theorem w_389 : (Jvm.Cond.methodLink "HarbourText$BadList" (42 : Nat) ({ cls := "HarbourText$Harbour", name := "numberOf", desc := "(II)I" } : Jvm.MethodName)) ∈ lw_good := gd_t (tb_2 (List.mem_of_getElem? (i := 193) rfl)) rfl
theorem w_390 : (Jvm.Cond.methodLink "HarbourText$BadList" (46 : Nat) ({ cls := "HarbourText$Harbour", name := "hasPieceAt", desc := "(II)Z" } : Jvm.MethodName)) ∈ lw_good := gd_t (tb_2 (List.mem_of_getElem? (i := 194) rfl)) rfl
theorem w_391 : (Jvm.Cond.instanceMethod ({ cls := "HarbourText$Harbour", name := "hasPieceAt", desc := "(II)Z" } : Jvm.MethodName)) ∈ lw_good := gd_t (tb_2 (List.mem_of_getElem? (i := 195) rfl)) rfl
theorem w_392 : (Jvm.Cond.selects "HarbourText$Harbour" ({ cls := "HarbourText$Harbour", name := "hasPieceAt", desc := "(II)Z" } : Jvm.MethodName) ({ cls := "HarbourText$Harbour", name := "hasPieceAt", desc := "(II)Z" } : Jvm.MethodName)) ∈ lw_good := gd_t (tb_2 (List.mem_of_getElem? (i := 196) rfl)) rfl
theorem w_393 : (Jvm.Cond.code ({ cls := "HarbourText$Harbour", name := "hasPieceAt", desc := "(II)Z" } : Jvm.MethodName) prog_3_method_14_code (4 : Nat) (Option.some Jvm.ClassFile.FieldType.boolean)) ∈ lw_good := gd_t (tb_2 (List.mem_of_getElem? (i := 197) rfl)) rfl
theorem w_394 : (Jvm.Cond.methodLink "HarbourText$BadList" (50 : Nat) ({ cls := "HarbourText$Ways", name := "depthAt", desc := "(I)I" } : Jvm.MethodName)) ∈ lw_good := gd_t (tb_2 (List.mem_of_getElem? (i := 198) rfl)) rfl
theorem w_395 : (Jvm.Cond.instanceMethod ({ cls := "HarbourText$Ways", name := "depthAt", desc := "(I)I" } : Jvm.MethodName)) ∈ lw_good := gd_t (tb_2 (List.mem_of_getElem? (i := 199) rfl)) rfl
theorem w_396 : (Jvm.Cond.selects "HarbourText$Ways" ({ cls := "HarbourText$Ways", name := "depthAt", desc := "(I)I" } : Jvm.MethodName) ({ cls := "HarbourText$Ways", name := "depthAt", desc := "(I)I" } : Jvm.MethodName)) ∈ lw_good := gd_t (tb_2 (List.mem_of_getElem? (i := 200) rfl)) rfl
theorem w_397 : (Jvm.Cond.code ({ cls := "HarbourText$Ways", name := "depthAt", desc := "(I)I" } : Jvm.MethodName) prog_6_method_2_code (2 : Nat) (Option.some Jvm.ClassFile.FieldType.int)) ∈ lw_good := gd_t (tb_2 (List.mem_of_getElem? (i := 201) rfl)) rfl
theorem w_398 : (Jvm.Cond.methodLink "HarbourText" (74 : Nat) ({ cls := "HarbourText$Printout", name := "write", desc := "(LHarbourText$Harbour;)V" } : Jvm.MethodName)) ∈ lw_good := gd_t (tb_2 (List.mem_of_getElem? (i := 202) rfl)) rfl
theorem w_399 : (Jvm.Cond.instanceMethod ({ cls := "HarbourText$Printout", name := "write", desc := "(LHarbourText$Harbour;)V" } : Jvm.MethodName)) ∈ lw_good := gd_t (tb_2 (List.mem_of_getElem? (i := 203) rfl)) rfl
theorem w_400 : (Jvm.Cond.selects "HarbourText$Printout" ({ cls := "HarbourText$Printout", name := "write", desc := "(LHarbourText$Harbour;)V" } : Jvm.MethodName) ({ cls := "HarbourText$Printout", name := "write", desc := "(LHarbourText$Harbour;)V" } : Jvm.MethodName)) ∈ lw_good := gd_t (tb_2 (List.mem_of_getElem? (i := 204) rfl)) rfl
theorem w_401 : (Jvm.Cond.code ({ cls := "HarbourText$Printout", name := "write", desc := "(LHarbourText$Harbour;)V" } : Jvm.MethodName) prog_4_method_4_code (6 : Nat) (Option.none : Option Jvm.ClassFile.FieldType)) ∈ lw_good := gd_t (tb_2 (List.mem_of_getElem? (i := 205) rfl)) rfl
theorem w_402 : (Jvm.Cond.methodLink "HarbourText$Printout" (19 : Nat) ({ cls := "HarbourText$Harbour", name := "size", desc := "()I" } : Jvm.MethodName)) ∈ lw_good := gd_t (tb_2 (List.mem_of_getElem? (i := 206) rfl)) rfl
theorem w_403 : (Jvm.Cond.methodLink "HarbourText$Printout" (25 : Nat) ({ cls := "HarbourText$Harbour", name := "nextBehind", desc := "(I)I" } : Jvm.MethodName)) ∈ lw_good := gd_t (tb_2 (List.mem_of_getElem? (i := 207) rfl)) rfl
theorem w_404 : (Jvm.Cond.instanceMethod ({ cls := "HarbourText$Harbour", name := "nextBehind", desc := "(I)I" } : Jvm.MethodName)) ∈ lw_good := gd_t (tb_2 (List.mem_of_getElem? (i := 208) rfl)) rfl
theorem w_405 : (Jvm.Cond.selects "HarbourText$Harbour" ({ cls := "HarbourText$Harbour", name := "nextBehind", desc := "(I)I" } : Jvm.MethodName) ({ cls := "HarbourText$Harbour", name := "nextBehind", desc := "(I)I" } : Jvm.MethodName)) ∈ lw_good := gd_t (tb_2 (List.mem_of_getElem? (i := 209) rfl)) rfl
theorem w_406 : (Jvm.Cond.code ({ cls := "HarbourText$Harbour", name := "nextBehind", desc := "(I)I" } : Jvm.MethodName) prog_3_method_13_code (4 : Nat) (Option.some Jvm.ClassFile.FieldType.int)) ∈ lw_good := gd_t (tb_2 (List.mem_of_getElem? (i := 210) rfl)) rfl
theorem w_407 : (Jvm.Cond.methodLink "HarbourText$Harbour" (40 : Nat) ({ cls := "HarbourText$Harbour", name := "rankOf", desc := "(I)I" } : Jvm.MethodName)) ∈ lw_good := gd_t (tb_2 (List.mem_of_getElem? (i := 211) rfl)) rfl
theorem w_408 : (Jvm.Cond.instanceMethod ({ cls := "HarbourText$Harbour", name := "rankOf", desc := "(I)I" } : Jvm.MethodName)) ∈ lw_good := gd_t (tb_2 (List.mem_of_getElem? (i := 212) rfl)) rfl
theorem w_409 : (Jvm.Cond.selects "HarbourText$Harbour" ({ cls := "HarbourText$Harbour", name := "rankOf", desc := "(I)I" } : Jvm.MethodName) ({ cls := "HarbourText$Harbour", name := "rankOf", desc := "(I)I" } : Jvm.MethodName)) ∈ lw_good := gd_t (tb_2 (List.mem_of_getElem? (i := 213) rfl)) rfl
theorem w_410 : (Jvm.Cond.code ({ cls := "HarbourText$Harbour", name := "rankOf", desc := "(I)I" } : Jvm.MethodName) prog_3_method_12_code (2 : Nat) (Option.some Jvm.ClassFile.FieldType.int)) ∈ lw_good := gd_t (tb_2 (List.mem_of_getElem? (i := 214) rfl)) rfl
theorem w_411 : (Jvm.Cond.methodLink "HarbourText$Harbour" (37 : Nat) ({ cls := "HarbourText$Harbour", name := "nameOf", desc := "(I)I" } : Jvm.MethodName)) ∈ lw_good := gd_t (tb_2 (List.mem_of_getElem? (i := 215) rfl)) rfl
theorem w_412 : (Jvm.Cond.instanceMethod ({ cls := "HarbourText$Harbour", name := "nameOf", desc := "(I)I" } : Jvm.MethodName)) ∈ lw_good := gd_t (tb_2 (List.mem_of_getElem? (i := 216) rfl)) rfl
theorem w_413 : (Jvm.Cond.selects "HarbourText$Harbour" ({ cls := "HarbourText$Harbour", name := "nameOf", desc := "(I)I" } : Jvm.MethodName) ({ cls := "HarbourText$Harbour", name := "nameOf", desc := "(I)I" } : Jvm.MethodName)) ∈ lw_good := gd_t (tb_2 (List.mem_of_getElem? (i := 217) rfl)) rfl
theorem w_414 : (Jvm.Cond.code ({ cls := "HarbourText$Harbour", name := "nameOf", desc := "(I)I" } : Jvm.MethodName) prog_3_method_8_code (2 : Nat) (Option.some Jvm.ClassFile.FieldType.int)) ∈ lw_good := gd_t (tb_2 (List.mem_of_getElem? (i := 218) rfl)) rfl
theorem w_415 : (Jvm.Cond.methodLink "HarbourText$Printout" (29 : Nat) ({ cls := "HarbourText$Printout", name := "writeRow", desc := "(LHarbourText$Harbour;I)V" } : Jvm.MethodName)) ∈ lw_good := gd_t (tb_2 (List.mem_of_getElem? (i := 219) rfl)) rfl
theorem w_416 : (Jvm.Cond.instanceMethod ({ cls := "HarbourText$Printout", name := "writeRow", desc := "(LHarbourText$Harbour;I)V" } : Jvm.MethodName)) ∈ lw_good := gd_t (tb_2 (List.mem_of_getElem? (i := 221) rfl)) rfl
theorem w_417 : (Jvm.Cond.code ({ cls := "HarbourText$Printout", name := "writeRow", desc := "(LHarbourText$Harbour;I)V" } : Jvm.MethodName) prog_4_method_5_code (6 : Nat) (Option.none : Option Jvm.ClassFile.FieldType)) ∈ lw_good := gd_t (tb_2 (List.mem_of_getElem? (i := 222) rfl)) rfl
theorem w_418 : (Jvm.Cond.methodLink "HarbourText$Printout" (36 : Nat) ({ cls := "HarbourText$Harbour", name := "kindOf", desc := "(I)I" } : Jvm.MethodName)) ∈ lw_good := gd_t (tb_2 (List.mem_of_getElem? (i := 223) rfl)) rfl
theorem w_419 : (Jvm.Cond.methodLink "HarbourText$Printout" (46 : Nat) ({ cls := "HarbourText$Printout", name := "writeSign", desc := "(C)V" } : Jvm.MethodName)) ∈ lw_good := gd_t (tb_2 (List.mem_of_getElem? (i := 226) rfl)) rfl
theorem w_420 : (Jvm.Cond.instanceMethod ({ cls := "HarbourText$Printout", name := "writeSign", desc := "(C)V" } : Jvm.MethodName)) ∈ lw_good := gd_t (tb_2 (List.mem_of_getElem? (i := 228) rfl)) rfl
theorem w_421 : (Jvm.Cond.code ({ cls := "HarbourText$Printout", name := "writeSign", desc := "(C)V" } : Jvm.MethodName) prog_4_method_7_code (2 : Nat) (Option.none : Option Jvm.ClassFile.FieldType)) ∈ lw_good := gd_t (tb_2 (List.mem_of_getElem? (i := 229) rfl)) rfl
theorem w_422 : (Jvm.Cond.methodLink "HarbourText$Printout" (50 : Nat) ({ cls := "HarbourText$Harbour", name := "nameOf", desc := "(I)I" } : Jvm.MethodName)) ∈ lw_good := gd_t (tb_2 (List.mem_of_getElem? (i := 230) rfl)) rfl
theorem w_423 : (Jvm.Cond.methodLink "HarbourText$Printout" (53 : Nat) ({ cls := "HarbourText$Printout", name := "writeNumber", desc := "(I)V" } : Jvm.MethodName)) ∈ lw_good := gd_t (tb_2 (List.mem_of_getElem? (i := 231) rfl)) rfl
theorem w_424 : (Jvm.Cond.instanceMethod ({ cls := "HarbourText$Printout", name := "writeNumber", desc := "(I)V" } : Jvm.MethodName)) ∈ lw_good := gd_t (tb_2 (List.mem_of_getElem? (i := 233) rfl)) rfl
theorem w_425 : (Jvm.Cond.code ({ cls := "HarbourText$Printout", name := "writeNumber", desc := "(I)V" } : Jvm.MethodName) prog_4_method_6_code (2 : Nat) (Option.none : Option Jvm.ClassFile.FieldType)) ∈ lw_good := gd_t (tb_2 (List.mem_of_getElem? (i := 234) rfl)) rfl
theorem w_426 : (Jvm.Cond.methodLink "HarbourText$Printout" (60 : Nat) ({ cls := "HarbourText$Harbour", name := "numberOf", desc := "(II)I" } : Jvm.MethodName)) ∈ lw_good := gd_t (tb_2 (List.mem_of_getElem? (i := 236) rfl)) rfl
theorem w_427 : (Jvm.Cond.methodLink "HarbourText$Printout" (33 : Nat) ({ cls := "HarbourText$Harbour", name := "rankOf", desc := "(I)I" } : Jvm.MethodName)) ∈ lw_good := gd_t (tb_2 (List.mem_of_getElem? (i := 237) rfl)) rfl
theorem w_428 : (Jvm.Cond.methodLink "HarbourTextLaw" (56 : Nat) ({ cls := "HarbourTextLaw", name := "piece", desc := "(LHarbourText;II[J)I" } : Jvm.MethodName)) ∈ lw_good := gd_t (tb_2 (List.mem_of_getElem? (i := 238) rfl)) rfl
theorem w_429 : (Jvm.Cond.static ({ cls := "HarbourTextLaw", name := "piece", desc := "(LHarbourText;II[J)I" } : Jvm.MethodName)) ∈ lw_good := gd_t (tb_2 (List.mem_of_getElem? (i := 239) rfl)) rfl
theorem w_430 : (Jvm.Cond.codeWith ({ cls := "HarbourTextLaw", name := "piece", desc := "(LHarbourText;II[J)I" } : Jvm.MethodName) method_4_code (5 : Nat) (Option.some Jvm.ClassFile.FieldType.int) [((0 : Nat), (10 : Nat), (13 : Nat), (19 : Nat))]) ∈ lw_good := gd_t (tb_3 (List.mem_of_getElem? (i := 0) rfl)) rfl
theorem w_431 : (Jvm.Cond.classLink "HarbourTextLaw" (19 : Nat) "java/lang/IndexOutOfBoundsException") ∈ lw_good := gd_t (tb_3 (List.mem_of_getElem? (i := 1) rfl)) rfl
theorem w_432 : (Jvm.Cond.methodLink "HarbourTextLaw" (15 : Nat) ({ cls := "HarbourText", name := "piece", desc := "(II)I" } : Jvm.MethodName)) ∈ lw_good := gd_t (tb_3 (List.mem_of_getElem? (i := 2) rfl)) rfl
theorem w_433 : (Jvm.Cond.instanceMethod ({ cls := "HarbourText", name := "piece", desc := "(II)I" } : Jvm.MethodName)) ∈ lw_good := gd_t (tb_3 (List.mem_of_getElem? (i := 3) rfl)) rfl
theorem w_434 : (Jvm.Cond.selects "HarbourText" ({ cls := "HarbourText", name := "piece", desc := "(II)I" } : Jvm.MethodName) ({ cls := "HarbourText", name := "piece", desc := "(II)I" } : Jvm.MethodName)) ∈ lw_good := gd_t (tb_3 (List.mem_of_getElem? (i := 4) rfl)) rfl
theorem w_435 : (Jvm.Cond.code ({ cls := "HarbourText", name := "piece", desc := "(II)I" } : Jvm.MethodName) prog_1_method_5_code (4 : Nat) (Option.some Jvm.ClassFile.FieldType.int)) ∈ lw_good := gd_t (tb_3 (List.mem_of_getElem? (i := 5) rfl)) rfl
theorem w_436 : (Jvm.Cond.classLink "HarbourText" (87 : Nat) "java/lang/IndexOutOfBoundsException") ∈ lw_good := gd_t (tb_3 (List.mem_of_getElem? (i := 6) rfl)) rfl
theorem w_437 : (Jvm.Cond.instantiable "java/lang/IndexOutOfBoundsException" (6 : Nat)) ∈ lw_good := gd_t (tb_3 (List.mem_of_getElem? (i := 7) rfl)) rfl
theorem w_438 : (Jvm.Cond.selects "java/lang/IndexOutOfBoundsException" ({ cls := "java/lang/Throwable", name := "fillInStackTrace", desc := "(I)Ljava/lang/Throwable;" } : Jvm.MethodName) ({ cls := "java/lang/Throwable", name := "fillInStackTrace", desc := "(I)Ljava/lang/Throwable;" } : Jvm.MethodName)) ∈ lw_good := gd_t (tb_3 (List.mem_of_getElem? (i := 9) rfl)) rfl
theorem w_439 : (Jvm.Cond.lays "java/lang/IndexOutOfBoundsException" "java/lang/Throwable" "cause" "Ljava/lang/Throwable;") ∈ lw_good := gd_t (tb_3 (List.mem_of_getElem? (i := 10) rfl)) rfl
theorem w_440 : (Jvm.Cond.lays "java/lang/IndexOutOfBoundsException" "java/lang/Throwable" "stackTrace" "[Ljava/lang/StackTraceElement;") ∈ lw_good := gd_t (tb_3 (List.mem_of_getElem? (i := 11) rfl)) rfl
theorem w_441 : (Jvm.Cond.lays "java/lang/IndexOutOfBoundsException" "java/lang/Throwable" "suppressedExceptions" "Ljava/util/List;") ∈ lw_good := gd_t (tb_3 (List.mem_of_getElem? (i := 12) rfl)) rfl
theorem w_442 : (Jvm.Cond.lays "java/lang/IndexOutOfBoundsException" "java/lang/Throwable" "detailMessage" "Ljava/lang/String;") ∈ lw_good := gd_t (tb_3 (List.mem_of_getElem? (i := 13) rfl)) rfl
theorem w_443 : (Jvm.Cond.lays "java/lang/IndexOutOfBoundsException" "java/lang/Throwable" "backtrace" "Ljava/lang/Object;") ∈ lw_good := gd_t (tb_3 (List.mem_of_getElem? (i := 14) rfl)) rfl
theorem w_444 : (Jvm.Cond.methodLink "HarbourText" (91 : Nat) ({ cls := "java/lang/IndexOutOfBoundsException", name := "<init>", desc := "(Ljava/lang/String;)V" } : Jvm.MethodName)) ∈ lw_good := gd_t (tb_3 (List.mem_of_getElem? (i := 16) rfl)) rfl
theorem w_445 : (Jvm.Cond.instanceMethod ({ cls := "java/lang/IndexOutOfBoundsException", name := "<init>", desc := "(Ljava/lang/String;)V" } : Jvm.MethodName)) ∈ lw_good := gd_t (tb_3 (List.mem_of_getElem? (i := 17) rfl)) rfl
theorem w_446 : (Jvm.Cond.code ({ cls := "java/lang/IndexOutOfBoundsException", name := "<init>", desc := "(Ljava/lang/String;)V" } : Jvm.MethodName) prog_12_method_2_code (2 : Nat) (Option.none : Option Jvm.ClassFile.FieldType)) ∈ lw_good := gd_t (tb_3 (List.mem_of_getElem? (i := 18) rfl)) rfl
theorem w_447 : (Jvm.Cond.methodLink "java/lang/IndexOutOfBoundsException" (7 : Nat) ({ cls := "java/lang/RuntimeException", name := "<init>", desc := "(Ljava/lang/String;)V" } : Jvm.MethodName)) ∈ lw_good := gd_t (tb_3 (List.mem_of_getElem? (i := 19) rfl)) rfl
theorem w_448 : (Jvm.Cond.lays "java/lang/IndexOutOfBoundsException" "java/lang/Throwable" "depth" "I") ∈ lw_good := gd_t (tb_3 (List.mem_of_getElem? (i := 20) rfl)) rfl
theorem w_449 : (Jvm.Cond.superclass "java/lang/IndexOutOfBoundsException" "java/lang/RuntimeException") ∈ lw_good := gd_t (tb_3 (List.mem_of_getElem? (i := 21) rfl)) rfl
theorem w_450 : (Jvm.Cond.methodLink "HarbourText" (92 : Nat) ({ cls := "HarbourText$Harbour", name := "kindOf", desc := "(I)I" } : Jvm.MethodName)) ∈ lw_good := gd_t (tb_3 (List.mem_of_getElem? (i := 22) rfl)) rfl
theorem w_451 : (Jvm.Cond.methodLink "HarbourText" (96 : Nat) ({ cls := "HarbourText", name := "numbersOfKind", desc := "(I)I" } : Jvm.MethodName)) ∈ lw_good := gd_t (tb_3 (List.mem_of_getElem? (i := 23) rfl)) rfl
theorem w_452 : (Jvm.Cond.methodLink "HarbourText" (101 : Nat) ({ cls := "HarbourText$Harbour", name := "nameOf", desc := "(I)I" } : Jvm.MethodName)) ∈ lw_good := gd_t (tb_3 (List.mem_of_getElem? (i := 25) rfl)) rfl
theorem w_453 : (Jvm.Cond.methodLink "HarbourText" (104 : Nat) ({ cls := "HarbourText$Harbour", name := "numberOf", desc := "(II)I" } : Jvm.MethodName)) ∈ lw_good := gd_t (tb_3 (List.mem_of_getElem? (i := 26) rfl)) rfl
theorem w_454 : (Jvm.Cond.methodLink "HarbourTextLaw" (64 : Nat) ({ cls := "HarbourTextLaw", name := "reach", desc := "(LHarbourText;III[J)I" } : Jvm.MethodName)) ∈ lw_good := gd_t (tb_3 (List.mem_of_getElem? (i := 27) rfl)) rfl
theorem w_455 : (Jvm.Cond.static ({ cls := "HarbourTextLaw", name := "reach", desc := "(LHarbourText;III[J)I" } : Jvm.MethodName)) ∈ lw_good := gd_t (tb_3 (List.mem_of_getElem? (i := 28) rfl)) rfl
theorem w_456 : (Jvm.Cond.codeWith ({ cls := "HarbourTextLaw", name := "reach", desc := "(LHarbourText;III[J)I" } : Jvm.MethodName) method_5_code (6 : Nat) (Option.some Jvm.ClassFile.FieldType.int) [((0 : Nat), (12 : Nat), (15 : Nat), (25 : Nat))]) ∈ lw_good := gd_t (tb_3 (List.mem_of_getElem? (i := 29) rfl)) rfl
theorem w_457 : (Jvm.Cond.classLink "HarbourTextLaw" (25 : Nat) "java/lang/IllegalArgumentException") ∈ lw_good := gd_t (tb_3 (List.mem_of_getElem? (i := 30) rfl)) rfl
theorem w_458 : (Jvm.Cond.methodLink "HarbourTextLaw" (21 : Nat) ({ cls := "HarbourText", name := "reach", desc := "(III)I" } : Jvm.MethodName)) ∈ lw_good := gd_t (tb_3 (List.mem_of_getElem? (i := 31) rfl)) rfl
theorem w_459 : (Jvm.Cond.instanceMethod ({ cls := "HarbourText", name := "reach", desc := "(III)I" } : Jvm.MethodName)) ∈ lw_good := gd_t (tb_3 (List.mem_of_getElem? (i := 32) rfl)) rfl
theorem w_460 : (Jvm.Cond.selects "HarbourText" ({ cls := "HarbourText", name := "reach", desc := "(III)I" } : Jvm.MethodName) ({ cls := "HarbourText", name := "reach", desc := "(III)I" } : Jvm.MethodName)) ∈ lw_good := gd_t (tb_3 (List.mem_of_getElem? (i := 33) rfl)) rfl
theorem w_461 : (Jvm.Cond.code ({ cls := "HarbourText", name := "reach", desc := "(III)I" } : Jvm.MethodName) prog_1_method_7_code (4 : Nat) (Option.some Jvm.ClassFile.FieldType.int)) ∈ lw_good := gd_t (tb_3 (List.mem_of_getElem? (i := 34) rfl)) rfl
theorem w_462 : (Jvm.Cond.classLink "HarbourText" (111 : Nat) "java/lang/IllegalArgumentException") ∈ lw_good := gd_t (tb_3 (List.mem_of_getElem? (i := 35) rfl)) rfl
theorem w_463 : (Jvm.Cond.instantiable "java/lang/IllegalArgumentException" (6 : Nat)) ∈ lw_good := gd_t (tb_3 (List.mem_of_getElem? (i := 36) rfl)) rfl
theorem w_464 : (Jvm.Cond.selects "java/lang/IllegalArgumentException" ({ cls := "java/lang/Throwable", name := "fillInStackTrace", desc := "(I)Ljava/lang/Throwable;" } : Jvm.MethodName) ({ cls := "java/lang/Throwable", name := "fillInStackTrace", desc := "(I)Ljava/lang/Throwable;" } : Jvm.MethodName)) ∈ lw_good := gd_t (tb_3 (List.mem_of_getElem? (i := 38) rfl)) rfl
theorem w_465 : (Jvm.Cond.lays "java/lang/IllegalArgumentException" "java/lang/Throwable" "cause" "Ljava/lang/Throwable;") ∈ lw_good := gd_t (tb_3 (List.mem_of_getElem? (i := 39) rfl)) rfl
theorem w_466 : (Jvm.Cond.lays "java/lang/IllegalArgumentException" "java/lang/Throwable" "stackTrace" "[Ljava/lang/StackTraceElement;") ∈ lw_good := gd_t (tb_3 (List.mem_of_getElem? (i := 40) rfl)) rfl
theorem w_467 : (Jvm.Cond.lays "java/lang/IllegalArgumentException" "java/lang/Throwable" "suppressedExceptions" "Ljava/util/List;") ∈ lw_good := gd_t (tb_3 (List.mem_of_getElem? (i := 41) rfl)) rfl
theorem w_468 : (Jvm.Cond.lays "java/lang/IllegalArgumentException" "java/lang/Throwable" "detailMessage" "Ljava/lang/String;") ∈ lw_good := gd_t (tb_3 (List.mem_of_getElem? (i := 42) rfl)) rfl
theorem w_469 : (Jvm.Cond.lays "java/lang/IllegalArgumentException" "java/lang/Throwable" "backtrace" "Ljava/lang/Object;") ∈ lw_good := gd_t (tb_3 (List.mem_of_getElem? (i := 43) rfl)) rfl
theorem w_470 : (Jvm.Cond.methodLink "HarbourText" (115 : Nat) ({ cls := "java/lang/IllegalArgumentException", name := "<init>", desc := "(Ljava/lang/String;)V" } : Jvm.MethodName)) ∈ lw_good := gd_t (tb_3 (List.mem_of_getElem? (i := 45) rfl)) rfl
theorem w_471 : (Jvm.Cond.instanceMethod ({ cls := "java/lang/IllegalArgumentException", name := "<init>", desc := "(Ljava/lang/String;)V" } : Jvm.MethodName)) ∈ lw_good := gd_t (tb_3 (List.mem_of_getElem? (i := 46) rfl)) rfl
theorem w_472 : (Jvm.Cond.code ({ cls := "java/lang/IllegalArgumentException", name := "<init>", desc := "(Ljava/lang/String;)V" } : Jvm.MethodName) prog_10_method_2_code (2 : Nat) (Option.none : Option Jvm.ClassFile.FieldType)) ∈ lw_good := gd_t (tb_3 (List.mem_of_getElem? (i := 47) rfl)) rfl
theorem w_473 : (Jvm.Cond.methodLink "java/lang/IllegalArgumentException" (7 : Nat) ({ cls := "java/lang/RuntimeException", name := "<init>", desc := "(Ljava/lang/String;)V" } : Jvm.MethodName)) ∈ lw_good := gd_t (tb_3 (List.mem_of_getElem? (i := 48) rfl)) rfl
theorem w_474 : (Jvm.Cond.lays "java/lang/IllegalArgumentException" "java/lang/Throwable" "depth" "I") ∈ lw_good := gd_t (tb_3 (List.mem_of_getElem? (i := 49) rfl)) rfl
theorem w_475 : (Jvm.Cond.superclass "java/lang/IllegalArgumentException" "java/lang/RuntimeException") ∈ lw_good := gd_t (tb_3 (List.mem_of_getElem? (i := 50) rfl)) rfl
theorem w_476 : (Jvm.Cond.methodLink "HarbourText" (116 : Nat) ({ cls := "HarbourText", name := "isPoint", desc := "(I)Z" } : Jvm.MethodName)) ∈ lw_good := gd_t (tb_3 (List.mem_of_getElem? (i := 51) rfl)) rfl
theorem w_477 : (Jvm.Cond.methodLink "HarbourText" (121 : Nat) ({ cls := "HarbourText$Ways", name := "spread", desc := "(LHarbourText$Harbour;II)V" } : Jvm.MethodName)) ∈ lw_good := gd_t (tb_3 (List.mem_of_getElem? (i := 53) rfl)) rfl
theorem w_478 : (Jvm.Cond.methodLink "HarbourText" (125 : Nat) ({ cls := "HarbourText$Ways", name := "depthAt", desc := "(I)I" } : Jvm.MethodName)) ∈ lw_good := gd_t (tb_3 (List.mem_of_getElem? (i := 54) rfl)) rfl
theorem w_479 : (Jvm.Cond.methodLink "HarbourTextLaw" (68 : Nat) ({ cls := "HarbourTextLaw", name := "deep", desc := "(LHarbourText;II[J)I" } : Jvm.MethodName)) ∈ lw_good := gd_t (tb_3 (List.mem_of_getElem? (i := 55) rfl)) rfl
theorem w_480 : (Jvm.Cond.static ({ cls := "HarbourTextLaw", name := "deep", desc := "(LHarbourText;II[J)I" } : Jvm.MethodName)) ∈ lw_good := gd_t (tb_3 (List.mem_of_getElem? (i := 56) rfl)) rfl
theorem w_481 : (Jvm.Cond.codeWith ({ cls := "HarbourTextLaw", name := "deep", desc := "(LHarbourText;II[J)I" } : Jvm.MethodName) method_6_code (5 : Nat) (Option.some Jvm.ClassFile.FieldType.int) [((0 : Nat), (10 : Nat), (13 : Nat), (25 : Nat))]) ∈ lw_good := gd_t (tb_3 (List.mem_of_getElem? (i := 57) rfl)) rfl
theorem w_482 : (Jvm.Cond.methodLink "HarbourTextLaw" (27 : Nat) ({ cls := "HarbourText", name := "deep", desc := "(II)I" } : Jvm.MethodName)) ∈ lw_good := gd_t (tb_3 (List.mem_of_getElem? (i := 58) rfl)) rfl
theorem w_483 : (Jvm.Cond.instanceMethod ({ cls := "HarbourText", name := "deep", desc := "(II)I" } : Jvm.MethodName)) ∈ lw_good := gd_t (tb_3 (List.mem_of_getElem? (i := 59) rfl)) rfl
theorem w_484 : (Jvm.Cond.selects "HarbourText" ({ cls := "HarbourText", name := "deep", desc := "(II)I" } : Jvm.MethodName) ({ cls := "HarbourText", name := "deep", desc := "(II)I" } : Jvm.MethodName)) ∈ lw_good := gd_t (tb_3 (List.mem_of_getElem? (i := 60) rfl)) rfl
theorem w_485 : (Jvm.Cond.code ({ cls := "HarbourText", name := "deep", desc := "(II)I" } : Jvm.MethodName) prog_1_method_8_code (3 : Nat) (Option.some Jvm.ClassFile.FieldType.int)) ∈ lw_good := gd_t (tb_3 (List.mem_of_getElem? (i := 61) rfl)) rfl
theorem w_486 : (Jvm.Cond.methodLink "HarbourTextLaw" (83 : Nat) ({ cls := "HarbourTextLaw", name := "at", desc := "(LHarbourText;I[J)I" } : Jvm.MethodName)) ∈ lw_good := gd_t (tb_3 (List.mem_of_getElem? (i := 62) rfl)) rfl
theorem w_487 : (Jvm.Cond.static ({ cls := "HarbourTextLaw", name := "at", desc := "(LHarbourText;I[J)I" } : Jvm.MethodName)) ∈ lw_good := gd_t (tb_3 (List.mem_of_getElem? (i := 63) rfl)) rfl
theorem w_488 : (Jvm.Cond.codeWith ({ cls := "HarbourTextLaw", name := "at", desc := "(LHarbourText;I[J)I" } : Jvm.MethodName) method_7_code (4 : Nat) (Option.some Jvm.ClassFile.FieldType.int) [((0 : Nat), (9 : Nat), (12 : Nat), (19 : Nat))]) ∈ lw_good := gd_t (tb_3 (List.mem_of_getElem? (i := 64) rfl)) rfl
theorem w_489 : (Jvm.Cond.methodLink "HarbourTextLaw" (30 : Nat) ({ cls := "HarbourText", name := "at", desc := "(I)I" } : Jvm.MethodName)) ∈ lw_good := gd_t (tb_3 (List.mem_of_getElem? (i := 65) rfl)) rfl
theorem w_490 : (Jvm.Cond.instanceMethod ({ cls := "HarbourText", name := "at", desc := "(I)I" } : Jvm.MethodName)) ∈ lw_good := gd_t (tb_3 (List.mem_of_getElem? (i := 66) rfl)) rfl
theorem w_491 : (Jvm.Cond.selects "HarbourText" ({ cls := "HarbourText", name := "at", desc := "(I)I" } : Jvm.MethodName) ({ cls := "HarbourText", name := "at", desc := "(I)I" } : Jvm.MethodName)) ∈ lw_good := gd_t (tb_3 (List.mem_of_getElem? (i := 67) rfl)) rfl
theorem w_492 : (Jvm.Cond.code ({ cls := "HarbourText", name := "at", desc := "(I)I" } : Jvm.MethodName) prog_1_method_12_code (2 : Nat) (Option.some Jvm.ClassFile.FieldType.int)) ∈ lw_good := gd_t (tb_3 (List.mem_of_getElem? (i := 68) rfl)) rfl
theorem w_493 : (Jvm.Cond.methodLink "HarbourText" (137 : Nat) ({ cls := "HarbourText$Printout", name := "signAt", desc := "(I)I" } : Jvm.MethodName)) ∈ lw_good := gd_t (tb_3 (List.mem_of_getElem? (i := 70) rfl)) rfl
theorem w_494 : (Jvm.Cond.instanceMethod ({ cls := "HarbourText$Printout", name := "signAt", desc := "(I)I" } : Jvm.MethodName)) ∈ lw_good := gd_t (tb_3 (List.mem_of_getElem? (i := 71) rfl)) rfl
theorem w_495 : (Jvm.Cond.selects "HarbourText$Printout" ({ cls := "HarbourText$Printout", name := "signAt", desc := "(I)I" } : Jvm.MethodName) ({ cls := "HarbourText$Printout", name := "signAt", desc := "(I)I" } : Jvm.MethodName)) ∈ lw_good := gd_t (tb_3 (List.mem_of_getElem? (i := 72) rfl)) rfl
theorem w_496 : (Jvm.Cond.code ({ cls := "HarbourText$Printout", name := "signAt", desc := "(I)I" } : Jvm.MethodName) prog_4_method_3_code (2 : Nat) (Option.some Jvm.ClassFile.FieldType.int)) ∈ lw_good := gd_t (tb_3 (List.mem_of_getElem? (i := 73) rfl)) rfl
theorem w_497 : (Jvm.Cond.classLink "HarbourTextLaw" (35 : Nat) "HarbourTextModel") ∈ lw_good := gd_t (tb_3 (List.mem_of_getElem? (i := 74) rfl)) rfl
theorem w_498 : (Jvm.Cond.instantiable "HarbourTextModel" (11 : Nat)) ∈ lw_good := gd_t (tb_3 (List.mem_of_getElem? (i := 75) rfl)) rfl
theorem w_499 : (Jvm.Cond.methodLink "HarbourTextLaw" (37 : Nat) ({ cls := "HarbourTextModel", name := "<init>", desc := "()V" } : Jvm.MethodName)) ∈ lw_good := gd_t (tb_3 (List.mem_of_getElem? (i := 76) rfl)) rfl
theorem w_500 : (Jvm.Cond.instanceMethod ({ cls := "HarbourTextModel", name := "<init>", desc := "()V" } : Jvm.MethodName)) ∈ lw_good := gd_t (tb_3 (List.mem_of_getElem? (i := 77) rfl)) rfl
theorem w_501 : (Jvm.Cond.code ({ cls := "HarbourTextModel", name := "<init>", desc := "()V" } : Jvm.MethodName) prog_8_method_1_code (1 : Nat) (Option.none : Option Jvm.ClassFile.FieldType)) ∈ lw_good := gd_t (tb_3 (List.mem_of_getElem? (i := 78) rfl)) rfl
theorem w_502 : (Jvm.Cond.methodLink "HarbourTextModel" (1 : Nat) ({ cls := "java/lang/Object", name := "<init>", desc := "()V" } : Jvm.MethodName)) ∈ lw_good := gd_t (tb_3 (List.mem_of_getElem? (i := 79) rfl)) rfl
theorem w_503 : (Jvm.Cond.fieldLink "HarbourTextModel" (26 : Nat) "HarbourTextModel" "thrown" "I") ∈ lw_good := gd_t (tb_3 (List.mem_of_getElem? (i := 80) rfl)) rfl
theorem w_504 : (Jvm.Cond.fieldLink "HarbourTextModel" (7 : Nat) "HarbourTextModel" "text" "[I") ∈ lw_good := gd_t (tb_3 (List.mem_of_getElem? (i := 81) rfl)) rfl
theorem w_505 : (Jvm.Cond.fieldLink "HarbourTextModel" (37 : Nat) "HarbourTextModel" "signs" "I") ∈ lw_good := gd_t (tb_3 (List.mem_of_getElem? (i := 82) rfl)) rfl
theorem w_506 : (Jvm.Cond.fieldLink "HarbourTextModel" (40 : Nat) "HarbourTextModel" "failed" "I") ∈ lw_good := gd_t (tb_3 (List.mem_of_getElem? (i := 83) rfl)) rfl
theorem w_507 : (Jvm.Cond.fieldLink "HarbourTextModel" (13 : Nat) "HarbourTextModel" "failedAt" "I") ∈ lw_good := gd_t (tb_3 (List.mem_of_getElem? (i := 84) rfl)) rfl
theorem w_508 : (Jvm.Cond.fieldLink "HarbourTextModel" (17 : Nat) "HarbourTextModel" "told" "[I") ∈ lw_good := gd_t (tb_3 (List.mem_of_getElem? (i := 85) rfl)) rfl
theorem w_509 : (Jvm.Cond.fieldLink "HarbourTextModel" (86 : Nat) "HarbourTextModel" "pieces" "I") ∈ lw_good := gd_t (tb_3 (List.mem_of_getElem? (i := 86) rfl)) rfl
theorem w_510 : (Jvm.Cond.fieldLink "HarbourTextModel" (126 : Nat) "HarbourTextModel" "kept" "I") ∈ lw_good := gd_t (tb_3 (List.mem_of_getElem? (i := 87) rfl)) rfl
theorem w_511 : (Jvm.Cond.fieldLink "HarbourTextModel" (50 : Nat) "HarbourTextModel" "coming" "I") ∈ lw_good := gd_t (tb_3 (List.mem_of_getElem? (i := 88) rfl)) rfl
theorem w_512 : (Jvm.Cond.fieldLink "HarbourTextModel" (20 : Nat) "HarbourTextModel" "deepTo" "[I") ∈ lw_good := gd_t (tb_3 (List.mem_of_getElem? (i := 89) rfl)) rfl
theorem w_513 : (Jvm.Cond.fieldLink "HarbourTextModel" (23 : Nat) "HarbourTextModel" "printed" "[I") ∈ lw_good := gd_t (tb_3 (List.mem_of_getElem? (i := 90) rfl)) rfl
theorem w_514 : (Jvm.Cond.lays "HarbourTextModel" "HarbourTextModel" "thrown" "I") ∈ lw_good := gd_t (tb_3 (List.mem_of_getElem? (i := 91) rfl)) rfl
theorem w_515 : (Jvm.Cond.soleField "HarbourTextModel" "thrown") ∈ lw_good := gd_t (tb_3 (List.mem_of_getElem? (i := 92) rfl)) rfl
theorem w_516 : (Jvm.Cond.laysFinal "HarbourTextModel" "HarbourTextModel" "text" "[I") ∈ lw_good := gd_t (tb_3 (List.mem_of_getElem? (i := 93) rfl)) rfl
theorem w_517 : (Jvm.Cond.soleField "HarbourTextModel" "text") ∈ lw_good := gd_t (tb_3 (List.mem_of_getElem? (i := 94) rfl)) rfl
theorem w_518 : (Jvm.Cond.lays "HarbourTextModel" "HarbourTextModel" "signs" "I") ∈ lw_good := gd_t (tb_3 (List.mem_of_getElem? (i := 95) rfl)) rfl
theorem w_519 : (Jvm.Cond.soleField "HarbourTextModel" "signs") ∈ lw_good := gd_t (tb_3 (List.mem_of_getElem? (i := 96) rfl)) rfl
theorem w_520 : (Jvm.Cond.lays "HarbourTextModel" "HarbourTextModel" "failed" "I") ∈ lw_good := gd_t (tb_3 (List.mem_of_getElem? (i := 97) rfl)) rfl
theorem w_521 : (Jvm.Cond.soleField "HarbourTextModel" "failed") ∈ lw_good := gd_t (tb_3 (List.mem_of_getElem? (i := 98) rfl)) rfl
theorem w_522 : (Jvm.Cond.lays "HarbourTextModel" "HarbourTextModel" "failedAt" "I") ∈ lw_good := gd_t (tb_3 (List.mem_of_getElem? (i := 99) rfl)) rfl
theorem w_523 : (Jvm.Cond.soleField "HarbourTextModel" "failedAt") ∈ lw_good := gd_t (tb_3 (List.mem_of_getElem? (i := 100) rfl)) rfl
theorem w_524 : (Jvm.Cond.laysFinal "HarbourTextModel" "HarbourTextModel" "told" "[I") ∈ lw_good := gd_t (tb_3 (List.mem_of_getElem? (i := 101) rfl)) rfl
theorem w_525 : (Jvm.Cond.soleField "HarbourTextModel" "told") ∈ lw_good := gd_t (tb_3 (List.mem_of_getElem? (i := 102) rfl)) rfl
theorem w_526 : (Jvm.Cond.lays "HarbourTextModel" "HarbourTextModel" "pieces" "I") ∈ lw_good := gd_t (tb_3 (List.mem_of_getElem? (i := 103) rfl)) rfl
theorem w_527 : (Jvm.Cond.soleField "HarbourTextModel" "pieces") ∈ lw_good := gd_t (tb_3 (List.mem_of_getElem? (i := 104) rfl)) rfl
theorem w_528 : (Jvm.Cond.lays "HarbourTextModel" "HarbourTextModel" "kept" "I") ∈ lw_good := gd_t (tb_3 (List.mem_of_getElem? (i := 105) rfl)) rfl
theorem w_529 : (Jvm.Cond.soleField "HarbourTextModel" "kept") ∈ lw_good := gd_t (tb_3 (List.mem_of_getElem? (i := 106) rfl)) rfl
theorem w_530 : (Jvm.Cond.lays "HarbourTextModel" "HarbourTextModel" "coming" "I") ∈ lw_good := gd_t (tb_3 (List.mem_of_getElem? (i := 107) rfl)) rfl
theorem w_531 : (Jvm.Cond.soleField "HarbourTextModel" "coming") ∈ lw_good := gd_t (tb_3 (List.mem_of_getElem? (i := 108) rfl)) rfl
theorem w_532 : (Jvm.Cond.laysFinal "HarbourTextModel" "HarbourTextModel" "deepTo" "[I") ∈ lw_good := gd_t (tb_3 (List.mem_of_getElem? (i := 109) rfl)) rfl
theorem w_533 : (Jvm.Cond.soleField "HarbourTextModel" "deepTo") ∈ lw_good := gd_t (tb_3 (List.mem_of_getElem? (i := 110) rfl)) rfl
theorem w_534 : (Jvm.Cond.laysFinal "HarbourTextModel" "HarbourTextModel" "printed" "[I") ∈ lw_good := gd_t (tb_3 (List.mem_of_getElem? (i := 111) rfl)) rfl
theorem w_535 : (Jvm.Cond.soleField "HarbourTextModel" "printed") ∈ lw_good := gd_t (tb_3 (List.mem_of_getElem? (i := 112) rfl)) rfl
theorem w_536 : (Jvm.Cond.superclass "HarbourTextModel" "java/lang/Object") ∈ lw_good := gd_t (tb_3 (List.mem_of_getElem? (i := 113) rfl)) rfl
theorem w_537 : (Jvm.Cond.methodLink "HarbourTextLaw" (49 : Nat) ({ cls := "HarbourTextModel", name := "thrown", desc := "()I" } : Jvm.MethodName)) ∈ lw_good := gd_t (tb_3 (List.mem_of_getElem? (i := 114) rfl)) rfl
theorem w_538 : (Jvm.Cond.instanceMethod ({ cls := "HarbourTextModel", name := "thrown", desc := "()I" } : Jvm.MethodName)) ∈ lw_good := gd_t (tb_3 (List.mem_of_getElem? (i := 115) rfl)) rfl
theorem w_539 : (Jvm.Cond.selects "HarbourTextModel" ({ cls := "HarbourTextModel", name := "thrown", desc := "()I" } : Jvm.MethodName) ({ cls := "HarbourTextModel", name := "thrown", desc := "()I" } : Jvm.MethodName)) ∈ lw_good := gd_t (tb_3 (List.mem_of_getElem? (i := 116) rfl)) rfl
theorem w_540 : (Jvm.Cond.code ({ cls := "HarbourTextModel", name := "thrown", desc := "()I" } : Jvm.MethodName) prog_8_method_2_code (1 : Nat) (Option.some Jvm.ClassFile.FieldType.int)) ∈ lw_good := gd_t (tb_3 (List.mem_of_getElem? (i := 117) rfl)) rfl
theorem w_541 : (Jvm.Cond.methodLink "HarbourTextLaw" (42 : Nat) ({ cls := "HarbourTextModel", name := "sign", desc := "(I)Z" } : Jvm.MethodName)) ∈ lw_good := gd_t (tb_3 (List.mem_of_getElem? (i := 118) rfl)) rfl
theorem w_542 : (Jvm.Cond.instanceMethod ({ cls := "HarbourTextModel", name := "sign", desc := "(I)Z" } : Jvm.MethodName)) ∈ lw_good := gd_t (tb_3 (List.mem_of_getElem? (i := 119) rfl)) rfl
theorem w_543 : (Jvm.Cond.selects "HarbourTextModel" ({ cls := "HarbourTextModel", name := "sign", desc := "(I)Z" } : Jvm.MethodName) ({ cls := "HarbourTextModel", name := "sign", desc := "(I)Z" } : Jvm.MethodName)) ∈ lw_good := gd_t (tb_3 (List.mem_of_getElem? (i := 120) rfl)) rfl
theorem w_544 : (Jvm.Cond.code ({ cls := "HarbourTextModel", name := "sign", desc := "(I)Z" } : Jvm.MethodName) prog_8_method_10_code (2 : Nat) (Option.some Jvm.ClassFile.FieldType.boolean)) ∈ lw_good := gd_t (tb_3 (List.mem_of_getElem? (i := 121) rfl)) rfl
theorem w_545 : (Jvm.Cond.methodLink "HarbourTextModel" (33 : Nat) ({ cls := "HarbourTextModel", name := "in", desc := "(III)Z" } : Jvm.MethodName)) ∈ lw_good := gd_t (tb_3 (List.mem_of_getElem? (i := 122) rfl)) rfl
theorem w_546 : (Jvm.Cond.static ({ cls := "HarbourTextModel", name := "in", desc := "(III)Z" } : Jvm.MethodName)) ∈ lw_good := gd_t (tb_3 (List.mem_of_getElem? (i := 123) rfl)) rfl
theorem w_547 : (Jvm.Cond.code ({ cls := "HarbourTextModel", name := "in", desc := "(III)Z" } : Jvm.MethodName) prog_8_method_4_code (3 : Nat) (Option.some Jvm.ClassFile.FieldType.boolean)) ∈ lw_good := gd_t (tb_3 (List.mem_of_getElem? (i := 124) rfl)) rfl
theorem w_548 : (Jvm.Cond.methodLink "HarbourTextLaw" (48 : Nat) ({ cls := "HarbourTextModel", name := "read", desc := "()I" } : Jvm.MethodName)) ∈ lw_good := gd_t (tb_3 (List.mem_of_getElem? (i := 125) rfl)) rfl
theorem w_549 : (Jvm.Cond.instanceMethod ({ cls := "HarbourTextModel", name := "read", desc := "()I" } : Jvm.MethodName)) ∈ lw_good := gd_t (tb_3 (List.mem_of_getElem? (i := 126) rfl)) rfl
theorem w_550 : (Jvm.Cond.selects "HarbourTextModel" ({ cls := "HarbourTextModel", name := "read", desc := "()I" } : Jvm.MethodName) ({ cls := "HarbourTextModel", name := "read", desc := "()I" } : Jvm.MethodName)) ∈ lw_good := gd_t (tb_3 (List.mem_of_getElem? (i := 127) rfl)) rfl
theorem w_551 : (Jvm.Cond.code ({ cls := "HarbourTextModel", name := "read", desc := "()I" } : Jvm.MethodName) prog_8_method_18_code (2 : Nat) (Option.some Jvm.ClassFile.FieldType.int)) ∈ lw_good := gd_t (tb_3 (List.mem_of_getElem? (i := 128) rfl)) rfl
theorem w_552 : (Jvm.Cond.methodLink "HarbourTextModel" (80 : Nat) ({ cls := "HarbourTextModel", name := "readsRow", desc := "(I)I" } : Jvm.MethodName)) ∈ lw_good := gd_t (tb_3 (List.mem_of_getElem? (i := 129) rfl)) rfl
theorem w_553 : (Jvm.Cond.instanceMethod ({ cls := "HarbourTextModel", name := "readsRow", desc := "(I)I" } : Jvm.MethodName)) ∈ lw_good := gd_t (tb_3 (List.mem_of_getElem? (i := 131) rfl)) rfl
theorem w_554 : (Jvm.Cond.code ({ cls := "HarbourTextModel", name := "readsRow", desc := "(I)I" } : Jvm.MethodName) prog_8_method_17_code (6 : Nat) (Option.some Jvm.ClassFile.FieldType.int)) ∈ lw_good := gd_t (tb_3 (List.mem_of_getElem? (i := 132) rfl)) rfl
theorem w_555 : (Jvm.Cond.methodLink "HarbourTextModel" (70 : Nat) ({ cls := "HarbourTextModel", name := "kindOf", desc := "(I)I" } : Jvm.MethodName)) ∈ lw_good := gd_t (tb_3 (List.mem_of_getElem? (i := 133) rfl)) rfl
theorem w_556 : (Jvm.Cond.static ({ cls := "HarbourTextModel", name := "kindOf", desc := "(I)I" } : Jvm.MethodName)) ∈ lw_good := gd_t (tb_3 (List.mem_of_getElem? (i := 134) rfl)) rfl
theorem w_557 : (Jvm.Cond.code ({ cls := "HarbourTextModel", name := "kindOf", desc := "(I)I" } : Jvm.MethodName) prog_8_method_7_code (3 : Nat) (Option.some Jvm.ClassFile.FieldType.int)) ∈ lw_good := gd_t (tb_3 (List.mem_of_getElem? (i := 135) rfl)) rfl
theorem w_558 : (Jvm.Cond.methodLink "HarbourTextModel" (29 : Nat) ({ cls := "HarbourTextModel", name := "letterOf", desc := "(I)I" } : Jvm.MethodName)) ∈ lw_good := gd_t (tb_3 (List.mem_of_getElem? (i := 136) rfl)) rfl
theorem w_559 : (Jvm.Cond.static ({ cls := "HarbourTextModel", name := "letterOf", desc := "(I)I" } : Jvm.MethodName)) ∈ lw_good := gd_t (tb_3 (List.mem_of_getElem? (i := 137) rfl)) rfl
theorem w_560 : (Jvm.Cond.code ({ cls := "HarbourTextModel", name := "letterOf", desc := "(I)I" } : Jvm.MethodName) prog_8_method_6_code (1 : Nat) (Option.some Jvm.ClassFile.FieldType.int)) ∈ lw_good := gd_t (tb_3 (List.mem_of_getElem? (i := 138) rfl)) rfl
theorem w_561 : (Jvm.Cond.methodLink "HarbourTextModel" (63 : Nat) ({ cls := "HarbourTextModel", name := "fails", desc := "(II)I" } : Jvm.MethodName)) ∈ lw_good := gd_t (tb_3 (List.mem_of_getElem? (i := 139) rfl)) rfl
theorem w_562 : (Jvm.Cond.instanceMethod ({ cls := "HarbourTextModel", name := "fails", desc := "(II)I" } : Jvm.MethodName)) ∈ lw_good := gd_t (tb_3 (List.mem_of_getElem? (i := 141) rfl)) rfl
theorem w_563 : (Jvm.Cond.code ({ cls := "HarbourTextModel", name := "fails", desc := "(II)I" } : Jvm.MethodName) prog_8_method_11_code (3 : Nat) (Option.some Jvm.ClassFile.FieldType.int)) ∈ lw_good := gd_t (tb_3 (List.mem_of_getElem? (i := 142) rfl)) rfl
theorem w_564 : (Jvm.Cond.methodLink "HarbourTextModel" (73 : Nat) ({ cls := "HarbourTextModel", name := "readsNumber", desc := "(III)I" } : Jvm.MethodName)) ∈ lw_good := gd_t (tb_3 (List.mem_of_getElem? (i := 143) rfl)) rfl
theorem w_565 : (Jvm.Cond.instanceMethod ({ cls := "HarbourTextModel", name := "readsNumber", desc := "(III)I" } : Jvm.MethodName)) ∈ lw_good := gd_t (tb_3 (List.mem_of_getElem? (i := 145) rfl)) rfl
theorem w_566 : (Jvm.Cond.code ({ cls := "HarbourTextModel", name := "readsNumber", desc := "(III)I" } : Jvm.MethodName) prog_8_method_16_code (7 : Nat) (Option.some Jvm.ClassFile.FieldType.int)) ∈ lw_good := gd_t (tb_3 (List.mem_of_getElem? (i := 146) rfl)) rfl
theorem w_567 : (Jvm.Cond.methodLink "HarbourTextModel" (60 : Nat) ({ cls := "HarbourTextModel", name := "numberAt", desc := "(I)I" } : Jvm.MethodName)) ∈ lw_good := gd_t (tb_3 (List.mem_of_getElem? (i := 147) rfl)) rfl
theorem w_568 : (Jvm.Cond.instanceMethod ({ cls := "HarbourTextModel", name := "numberAt", desc := "(I)I" } : Jvm.MethodName)) ∈ lw_good := gd_t (tb_3 (List.mem_of_getElem? (i := 149) rfl)) rfl
theorem w_569 : (Jvm.Cond.code ({ cls := "HarbourTextModel", name := "numberAt", desc := "(I)I" } : Jvm.MethodName) prog_8_method_13_code (4 : Nat) (Option.some Jvm.ClassFile.FieldType.int)) ∈ lw_good := gd_t (tb_3 (List.mem_of_getElem? (i := 150) rfl)) rfl
theorem w_570 : (Jvm.Cond.methodLink "HarbourTextModel" (43 : Nat) ({ cls := "HarbourTextModel", name := "signAt", desc := "(I)I" } : Jvm.MethodName)) ∈ lw_good := gd_t (tb_3 (List.mem_of_getElem? (i := 151) rfl)) rfl
theorem w_571 : (Jvm.Cond.instanceMethod ({ cls := "HarbourTextModel", name := "signAt", desc := "(I)I" } : Jvm.MethodName)) ∈ lw_good := gd_t (tb_3 (List.mem_of_getElem? (i := 153) rfl)) rfl
theorem w_572 : (Jvm.Cond.code ({ cls := "HarbourTextModel", name := "signAt", desc := "(I)I" } : Jvm.MethodName) prog_8_method_12_code (2 : Nat) (Option.some Jvm.ClassFile.FieldType.int)) ∈ lw_good := gd_t (tb_3 (List.mem_of_getElem? (i := 154) rfl)) rfl
theorem w_573 : (Jvm.Cond.methodLink "HarbourTextModel" (46 : Nat) ({ cls := "HarbourTextModel", name := "isDigit", desc := "(I)Z" } : Jvm.MethodName)) ∈ lw_good := gd_t (tb_3 (List.mem_of_getElem? (i := 155) rfl)) rfl
theorem w_574 : (Jvm.Cond.static ({ cls := "HarbourTextModel", name := "isDigit", desc := "(I)Z" } : Jvm.MethodName)) ∈ lw_good := gd_t (tb_3 (List.mem_of_getElem? (i := 156) rfl)) rfl
theorem w_575 : (Jvm.Cond.code ({ cls := "HarbourTextModel", name := "isDigit", desc := "(I)Z" } : Jvm.MethodName) prog_8_method_5_code (1 : Nat) (Option.some Jvm.ClassFile.FieldType.boolean)) ∈ lw_good := gd_t (tb_3 (List.mem_of_getElem? (i := 157) rfl)) rfl
theorem w_576 : (Jvm.Cond.methodLink "HarbourTextModel" (67 : Nat) ({ cls := "HarbourTextModel", name := "wrong", desc := "(II)I" } : Jvm.MethodName)) ∈ lw_good := gd_t (tb_3 (List.mem_of_getElem? (i := 158) rfl)) rfl
theorem w_577 : (Jvm.Cond.instanceMethod ({ cls := "HarbourTextModel", name := "wrong", desc := "(II)I" } : Jvm.MethodName)) ∈ lw_good := gd_t (tb_3 (List.mem_of_getElem? (i := 160) rfl)) rfl
theorem w_578 : (Jvm.Cond.code ({ cls := "HarbourTextModel", name := "wrong", desc := "(II)I" } : Jvm.MethodName) prog_8_method_15_code (6 : Nat) (Option.some Jvm.ClassFile.FieldType.int)) ∈ lw_good := gd_t (tb_3 (List.mem_of_getElem? (i := 161) rfl)) rfl
theorem w_579 : (Jvm.Cond.methodLink "HarbourTextModel" (53 : Nat) ({ cls := "HarbourTextModel", name := "findIn", desc := "(IIII)I" } : Jvm.MethodName)) ∈ lw_good := gd_t (tb_3 (List.mem_of_getElem? (i := 162) rfl)) rfl
theorem w_580 : (Jvm.Cond.instanceMethod ({ cls := "HarbourTextModel", name := "findIn", desc := "(IIII)I" } : Jvm.MethodName)) ∈ lw_good := gd_t (tb_3 (List.mem_of_getElem? (i := 164) rfl)) rfl
theorem w_581 : (Jvm.Cond.code ({ cls := "HarbourTextModel", name := "findIn", desc := "(IIII)I" } : Jvm.MethodName) prog_8_method_14_code (7 : Nat) (Option.some Jvm.ClassFile.FieldType.int)) ∈ lw_good := gd_t (tb_3 (List.mem_of_getElem? (i := 165) rfl)) rfl
theorem w_582 : (Jvm.Cond.methodLink "HarbourTextModel" (57 : Nat) ({ cls := "HarbourTextModel", name := "isRange", desc := "(III)Z" } : Jvm.MethodName)) ∈ lw_good := gd_t (tb_3 (List.mem_of_getElem? (i := 166) rfl)) rfl
theorem w_583 : (Jvm.Cond.static ({ cls := "HarbourTextModel", name := "isRange", desc := "(III)Z" } : Jvm.MethodName)) ∈ lw_good := gd_t (tb_3 (List.mem_of_getElem? (i := 167) rfl)) rfl
theorem w_584 : (Jvm.Cond.code ({ cls := "HarbourTextModel", name := "isRange", desc := "(III)Z" } : Jvm.MethodName) prog_8_method_9_code (3 : Nat) (Option.some Jvm.ClassFile.FieldType.boolean)) ∈ lw_good := gd_t (tb_3 (List.mem_of_getElem? (i := 168) rfl)) rfl
theorem w_585 : (Jvm.Cond.methodLink "HarbourTextModel" (77 : Nat) ({ cls := "HarbourTextModel", name := "numbersOf", desc := "(I)I" } : Jvm.MethodName)) ∈ lw_good := gd_t (tb_3 (List.mem_of_getElem? (i := 169) rfl)) rfl
theorem w_586 : (Jvm.Cond.static ({ cls := "HarbourTextModel", name := "numbersOf", desc := "(I)I" } : Jvm.MethodName)) ∈ lw_good := gd_t (tb_3 (List.mem_of_getElem? (i := 170) rfl)) rfl
theorem w_587 : (Jvm.Cond.code ({ cls := "HarbourTextModel", name := "numbersOf", desc := "(I)I" } : Jvm.MethodName) prog_8_method_8_code (1 : Nat) (Option.some Jvm.ClassFile.FieldType.int)) ∈ lw_good := gd_t (tb_3 (List.mem_of_getElem? (i := 171) rfl)) rfl
theorem w_588 : (Jvm.Cond.methodLink "HarbourTextModel" (83 : Nat) ({ cls := "HarbourTextModel", name := "refuse", desc := "(I)I" } : Jvm.MethodName)) ∈ lw_good := gd_t (tb_3 (List.mem_of_getElem? (i := 172) rfl)) rfl
theorem w_589 : (Jvm.Cond.instanceMethod ({ cls := "HarbourTextModel", name := "refuse", desc := "(I)I" } : Jvm.MethodName)) ∈ lw_good := gd_t (tb_3 (List.mem_of_getElem? (i := 174) rfl)) rfl
theorem w_590 : (Jvm.Cond.code ({ cls := "HarbourTextModel", name := "refuse", desc := "(I)I" } : Jvm.MethodName) prog_8_method_3_code (2 : Nat) (Option.some Jvm.ClassFile.FieldType.int)) ∈ lw_good := gd_t (tb_3 (List.mem_of_getElem? (i := 175) rfl)) rfl
theorem w_591 : (Jvm.Cond.methodLink "HarbourTextModel" (89 : Nat) ({ cls := "HarbourTextModel", name := "copies", desc := "(III)V" } : Jvm.MethodName)) ∈ lw_good := gd_t (tb_3 (List.mem_of_getElem? (i := 176) rfl)) rfl
theorem w_592 : (Jvm.Cond.instanceMethod ({ cls := "HarbourTextModel", name := "copies", desc := "(III)V" } : Jvm.MethodName)) ∈ lw_good := gd_t (tb_3 (List.mem_of_getElem? (i := 178) rfl)) rfl
theorem w_593 : (Jvm.Cond.code ({ cls := "HarbourTextModel", name := "copies", desc := "(III)V" } : Jvm.MethodName) prog_8_method_19_code (5 : Nat) (Option.none : Option Jvm.ClassFile.FieldType)) ∈ lw_good := gd_t (tb_3 (List.mem_of_getElem? (i := 179) rfl)) rfl
theorem w_594 : (Jvm.Cond.methodLink "HarbourTextLaw" (55 : Nat) ({ cls := "HarbourTextModel", name := "failure", desc := "(I)I" } : Jvm.MethodName)) ∈ lw_good := gd_t (tb_3 (List.mem_of_getElem? (i := 180) rfl)) rfl
theorem w_595 : (Jvm.Cond.instanceMethod ({ cls := "HarbourTextModel", name := "failure", desc := "(I)I" } : Jvm.MethodName)) ∈ lw_good := gd_t (tb_3 (List.mem_of_getElem? (i := 181) rfl)) rfl
theorem w_596 : (Jvm.Cond.selects "HarbourTextModel" ({ cls := "HarbourTextModel", name := "failure", desc := "(I)I" } : Jvm.MethodName) ({ cls := "HarbourTextModel", name := "failure", desc := "(I)I" } : Jvm.MethodName)) ∈ lw_good := gd_t (tb_3 (List.mem_of_getElem? (i := 182) rfl)) rfl
theorem w_597 : (Jvm.Cond.code ({ cls := "HarbourTextModel", name := "failure", desc := "(I)I" } : Jvm.MethodName) prog_8_method_20_code (2 : Nat) (Option.some Jvm.ClassFile.FieldType.int)) ∈ lw_good := gd_t (tb_3 (List.mem_of_getElem? (i := 183) rfl)) rfl
theorem w_598 : (Jvm.Cond.methodLink "HarbourTextLaw" (59 : Nat) ({ cls := "HarbourTextModel", name := "piece", desc := "(II)I" } : Jvm.MethodName)) ∈ lw_good := gd_t (tb_3 (List.mem_of_getElem? (i := 184) rfl)) rfl
theorem w_599 : (Jvm.Cond.instanceMethod ({ cls := "HarbourTextModel", name := "piece", desc := "(II)I" } : Jvm.MethodName)) ∈ lw_good := gd_t (tb_3 (List.mem_of_getElem? (i := 185) rfl)) rfl
theorem w_600 : (Jvm.Cond.selects "HarbourTextModel" ({ cls := "HarbourTextModel", name := "piece", desc := "(II)I" } : Jvm.MethodName) ({ cls := "HarbourTextModel", name := "piece", desc := "(II)I" } : Jvm.MethodName)) ∈ lw_good := gd_t (tb_3 (List.mem_of_getElem? (i := 186) rfl)) rfl
theorem w_601 : (Jvm.Cond.code ({ cls := "HarbourTextModel", name := "piece", desc := "(II)I" } : Jvm.MethodName) prog_8_method_21_code (4 : Nat) (Option.some Jvm.ClassFile.FieldType.int)) ∈ lw_good := gd_t (tb_3 (List.mem_of_getElem? (i := 187) rfl)) rfl
theorem w_602 : (Jvm.Cond.methodLink "HarbourTextLaw" (63 : Nat) ({ cls := "HarbourTextModel", name := "find", desc := "(II)I" } : Jvm.MethodName)) ∈ lw_good := gd_t (tb_3 (List.mem_of_getElem? (i := 188) rfl)) rfl
theorem w_603 : (Jvm.Cond.instanceMethod ({ cls := "HarbourTextModel", name := "find", desc := "(II)I" } : Jvm.MethodName)) ∈ lw_good := gd_t (tb_3 (List.mem_of_getElem? (i := 189) rfl)) rfl
theorem w_604 : (Jvm.Cond.selects "HarbourTextModel" ({ cls := "HarbourTextModel", name := "find", desc := "(II)I" } : Jvm.MethodName) ({ cls := "HarbourTextModel", name := "find", desc := "(II)I" } : Jvm.MethodName)) ∈ lw_good := gd_t (tb_3 (List.mem_of_getElem? (i := 190) rfl)) rfl
theorem w_605 : (Jvm.Cond.code ({ cls := "HarbourTextModel", name := "find", desc := "(II)I" } : Jvm.MethodName) prog_8_method_22_code (3 : Nat) (Option.some Jvm.ClassFile.FieldType.int)) ∈ lw_good := gd_t (tb_3 (List.mem_of_getElem? (i := 191) rfl)) rfl
theorem w_606 : (Jvm.Cond.methodLink "HarbourTextLaw" (67 : Nat) ({ cls := "HarbourTextModel", name := "reach", desc := "(III)I" } : Jvm.MethodName)) ∈ lw_good := gd_t (tb_3 (List.mem_of_getElem? (i := 192) rfl)) rfl
theorem w_607 : (Jvm.Cond.instanceMethod ({ cls := "HarbourTextModel", name := "reach", desc := "(III)I" } : Jvm.MethodName)) ∈ lw_good := gd_t (tb_3 (List.mem_of_getElem? (i := 193) rfl)) rfl
theorem w_608 : (Jvm.Cond.selects "HarbourTextModel" ({ cls := "HarbourTextModel", name := "reach", desc := "(III)I" } : Jvm.MethodName) ({ cls := "HarbourTextModel", name := "reach", desc := "(III)I" } : Jvm.MethodName)) ∈ lw_good := gd_t (tb_3 (List.mem_of_getElem? (i := 194) rfl)) rfl
theorem w_609 : (Jvm.Cond.code ({ cls := "HarbourTextModel", name := "reach", desc := "(III)I" } : Jvm.MethodName) prog_8_method_26_code (4 : Nat) (Option.some Jvm.ClassFile.FieldType.int)) ∈ lw_good := gd_t (tb_3 (List.mem_of_getElem? (i := 195) rfl)) rfl
theorem w_610 : (Jvm.Cond.methodLink "HarbourTextModel" (96 : Nat) ({ cls := "HarbourTextModel", name := "isPoint", desc := "(I)Z" } : Jvm.MethodName)) ∈ lw_good := gd_t (tb_3 (List.mem_of_getElem? (i := 196) rfl)) rfl
theorem w_611 : (Jvm.Cond.static ({ cls := "HarbourTextModel", name := "isPoint", desc := "(I)Z" } : Jvm.MethodName)) ∈ lw_good := gd_t (tb_3 (List.mem_of_getElem? (i := 197) rfl)) rfl
theorem w_612 : (Jvm.Cond.code ({ cls := "HarbourTextModel", name := "isPoint", desc := "(I)Z" } : Jvm.MethodName) prog_8_method_25_code (1 : Nat) (Option.some Jvm.ClassFile.FieldType.boolean)) ∈ lw_good := gd_t (tb_3 (List.mem_of_getElem? (i := 198) rfl)) rfl
theorem w_613 : (Jvm.Cond.methodLink "HarbourTextModel" (99 : Nat) ({ cls := "HarbourTextModel", name := "goes", desc := "(II)V" } : Jvm.MethodName)) ∈ lw_good := gd_t (tb_3 (List.mem_of_getElem? (i := 199) rfl)) rfl
theorem w_614 : (Jvm.Cond.instanceMethod ({ cls := "HarbourTextModel", name := "goes", desc := "(II)V" } : Jvm.MethodName)) ∈ lw_good := gd_t (tb_3 (List.mem_of_getElem? (i := 201) rfl)) rfl
theorem w_615 : (Jvm.Cond.code ({ cls := "HarbourTextModel", name := "goes", desc := "(II)V" } : Jvm.MethodName) prog_8_method_24_code (9 : Nat) (Option.none : Option Jvm.ClassFile.FieldType)) ∈ lw_good := gd_t (tb_3 (List.mem_of_getElem? (i := 202) rfl)) rfl
theorem w_616 : (Jvm.Cond.methodLink "HarbourTextModel" (93 : Nat) ({ cls := "HarbourTextModel", name := "less", desc := "(II)I" } : Jvm.MethodName)) ∈ lw_good := gd_t (tb_3 (List.mem_of_getElem? (i := 203) rfl)) rfl
theorem w_617 : (Jvm.Cond.static ({ cls := "HarbourTextModel", name := "less", desc := "(II)I" } : Jvm.MethodName)) ∈ lw_good := gd_t (tb_3 (List.mem_of_getElem? (i := 204) rfl)) rfl
theorem w_618 : (Jvm.Cond.code ({ cls := "HarbourTextModel", name := "less", desc := "(II)I" } : Jvm.MethodName) prog_8_method_23_code (2 : Nat) (Option.some Jvm.ClassFile.FieldType.int)) ∈ lw_good := gd_t (tb_3 (List.mem_of_getElem? (i := 205) rfl)) rfl
theorem w_619 : (Jvm.Cond.methodLink "HarbourTextLaw" (70 : Nat) ({ cls := "HarbourTextModel", name := "deep", desc := "(II)I" } : Jvm.MethodName)) ∈ lw_good := gd_t (tb_3 (List.mem_of_getElem? (i := 206) rfl)) rfl
theorem w_620 : (Jvm.Cond.instanceMethod ({ cls := "HarbourTextModel", name := "deep", desc := "(II)I" } : Jvm.MethodName)) ∈ lw_good := gd_t (tb_3 (List.mem_of_getElem? (i := 207) rfl)) rfl
theorem w_621 : (Jvm.Cond.selects "HarbourTextModel" ({ cls := "HarbourTextModel", name := "deep", desc := "(II)I" } : Jvm.MethodName) ({ cls := "HarbourTextModel", name := "deep", desc := "(II)I" } : Jvm.MethodName)) ∈ lw_good := gd_t (tb_3 (List.mem_of_getElem? (i := 208) rfl)) rfl
theorem w_622 : (Jvm.Cond.code ({ cls := "HarbourTextModel", name := "deep", desc := "(II)I" } : Jvm.MethodName) prog_8_method_27_code (3 : Nat) (Option.some Jvm.ClassFile.FieldType.int)) ∈ lw_good := gd_t (tb_3 (List.mem_of_getElem? (i := 209) rfl)) rfl
theorem w_623 : (Jvm.Cond.methodLink "HarbourTextLaw" (74 : Nat) ({ cls := "HarbourTextModel", name := "bad", desc := "()I" } : Jvm.MethodName)) ∈ lw_good := gd_t (tb_3 (List.mem_of_getElem? (i := 210) rfl)) rfl
theorem w_624 : (Jvm.Cond.instanceMethod ({ cls := "HarbourTextModel", name := "bad", desc := "()I" } : Jvm.MethodName)) ∈ lw_good := gd_t (tb_3 (List.mem_of_getElem? (i := 211) rfl)) rfl
theorem w_625 : (Jvm.Cond.selects "HarbourTextModel" ({ cls := "HarbourTextModel", name := "bad", desc := "()I" } : Jvm.MethodName) ({ cls := "HarbourTextModel", name := "bad", desc := "()I" } : Jvm.MethodName)) ∈ lw_good := gd_t (tb_3 (List.mem_of_getElem? (i := 212) rfl)) rfl
theorem w_626 : (Jvm.Cond.code ({ cls := "HarbourTextModel", name := "bad", desc := "()I" } : Jvm.MethodName) prog_8_method_31_code (1 : Nat) (Option.some Jvm.ClassFile.FieldType.int)) ∈ lw_good := gd_t (tb_3 (List.mem_of_getElem? (i := 213) rfl)) rfl
theorem w_627 : (Jvm.Cond.methodLink "HarbourTextModel" (110 : Nat) ({ cls := "HarbourTextModel", name := "badAt", desc := "(I)I" } : Jvm.MethodName)) ∈ lw_good := gd_t (tb_3 (List.mem_of_getElem? (i := 214) rfl)) rfl
theorem w_628 : (Jvm.Cond.instanceMethod ({ cls := "HarbourTextModel", name := "badAt", desc := "(I)I" } : Jvm.MethodName)) ∈ lw_good := gd_t (tb_3 (List.mem_of_getElem? (i := 216) rfl)) rfl
theorem w_629 : (Jvm.Cond.code ({ cls := "HarbourTextModel", name := "badAt", desc := "(I)I" } : Jvm.MethodName) prog_8_method_30_code (6 : Nat) (Option.some Jvm.ClassFile.FieldType.int)) ∈ lw_good := gd_t (tb_3 (List.mem_of_getElem? (i := 217) rfl)) rfl
theorem w_630 : (Jvm.Cond.methodLink "HarbourTextModel" (107 : Nat) ({ cls := "HarbourTextModel", name := "isBad", desc := "(II)Z" } : Jvm.MethodName)) ∈ lw_good := gd_t (tb_3 (List.mem_of_getElem? (i := 218) rfl)) rfl
theorem w_631 : (Jvm.Cond.instanceMethod ({ cls := "HarbourTextModel", name := "isBad", desc := "(II)Z" } : Jvm.MethodName)) ∈ lw_good := gd_t (tb_3 (List.mem_of_getElem? (i := 220) rfl)) rfl
theorem w_632 : (Jvm.Cond.code ({ cls := "HarbourTextModel", name := "isBad", desc := "(II)Z" } : Jvm.MethodName) prog_8_method_29_code (5 : Nat) (Option.some Jvm.ClassFile.FieldType.boolean)) ∈ lw_good := gd_t (tb_3 (List.mem_of_getElem? (i := 221) rfl)) rfl
theorem w_633 : (Jvm.Cond.methodLink "HarbourTextModel" (103 : Nat) ({ cls := "HarbourTextModel", name := "isTouched", desc := "(II)Z" } : Jvm.MethodName)) ∈ lw_good := gd_t (tb_3 (List.mem_of_getElem? (i := 222) rfl)) rfl
theorem w_634 : (Jvm.Cond.instanceMethod ({ cls := "HarbourTextModel", name := "isTouched", desc := "(II)Z" } : Jvm.MethodName)) ∈ lw_good := gd_t (tb_3 (List.mem_of_getElem? (i := 224) rfl)) rfl
theorem w_635 : (Jvm.Cond.code ({ cls := "HarbourTextModel", name := "isTouched", desc := "(II)Z" } : Jvm.MethodName) prog_8_method_28_code (5 : Nat) (Option.some Jvm.ClassFile.FieldType.boolean)) ∈ lw_good := gd_t (tb_3 (List.mem_of_getElem? (i := 225) rfl)) rfl
theorem w_636 : (Jvm.Cond.methodLink "HarbourTextLaw" (78 : Nat) ({ cls := "HarbourTextModel", name := "unjoined", desc := "(I)I" } : Jvm.MethodName)) ∈ lw_good := gd_t (tb_3 (List.mem_of_getElem? (i := 226) rfl)) rfl
theorem w_637 : (Jvm.Cond.instanceMethod ({ cls := "HarbourTextModel", name := "unjoined", desc := "(I)I" } : Jvm.MethodName)) ∈ lw_good := gd_t (tb_3 (List.mem_of_getElem? (i := 227) rfl)) rfl
theorem w_638 : (Jvm.Cond.selects "HarbourTextModel" ({ cls := "HarbourTextModel", name := "unjoined", desc := "(I)I" } : Jvm.MethodName) ({ cls := "HarbourTextModel", name := "unjoined", desc := "(I)I" } : Jvm.MethodName)) ∈ lw_good := gd_t (tb_3 (List.mem_of_getElem? (i := 228) rfl)) rfl
theorem w_639 : (Jvm.Cond.code ({ cls := "HarbourTextModel", name := "unjoined", desc := "(I)I" } : Jvm.MethodName) prog_8_method_32_code (3 : Nat) (Option.some Jvm.ClassFile.FieldType.int)) ∈ lw_good := gd_t (tb_3 (List.mem_of_getElem? (i := 229) rfl)) rfl
theorem w_640 : (Jvm.Cond.methodLink "HarbourTextLaw" (82 : Nat) ({ cls := "HarbourTextModel", name := "print", desc := "()I" } : Jvm.MethodName)) ∈ lw_good := gd_t (tb_3 (List.mem_of_getElem? (i := 230) rfl)) rfl
theorem w_641 : (Jvm.Cond.instanceMethod ({ cls := "HarbourTextModel", name := "print", desc := "()I" } : Jvm.MethodName)) ∈ lw_good := gd_t (tb_3 (List.mem_of_getElem? (i := 231) rfl)) rfl
theorem w_642 : (Jvm.Cond.selects "HarbourTextModel" ({ cls := "HarbourTextModel", name := "print", desc := "()I" } : Jvm.MethodName) ({ cls := "HarbourTextModel", name := "print", desc := "()I" } : Jvm.MethodName)) ∈ lw_good := gd_t (tb_3 (List.mem_of_getElem? (i := 232) rfl)) rfl
theorem w_643 : (Jvm.Cond.code ({ cls := "HarbourTextModel", name := "print", desc := "()I" } : Jvm.MethodName) prog_8_method_37_code (1 : Nat) (Option.some Jvm.ClassFile.FieldType.int)) ∈ lw_good := gd_t (tb_3 (List.mem_of_getElem? (i := 233) rfl)) rfl
theorem w_644 : (Jvm.Cond.methodLink "HarbourTextModel" (119 : Nat) ({ cls := "HarbourTextModel", name := "length", desc := "()I" } : Jvm.MethodName)) ∈ lw_good := gd_t (tb_3 (List.mem_of_getElem? (i := 234) rfl)) rfl
theorem w_645 : (Jvm.Cond.instanceMethod ({ cls := "HarbourTextModel", name := "length", desc := "()I" } : Jvm.MethodName)) ∈ lw_good := gd_t (tb_3 (List.mem_of_getElem? (i := 236) rfl)) rfl
theorem w_646 : (Jvm.Cond.code ({ cls := "HarbourTextModel", name := "length", desc := "()I" } : Jvm.MethodName) prog_8_method_36_code (3 : Nat) (Option.some Jvm.ClassFile.FieldType.int)) ∈ lw_good := gd_t (tb_3 (List.mem_of_getElem? (i := 237) rfl)) rfl
theorem w_647 : (Jvm.Cond.methodLink "HarbourTextModel" (116 : Nat) ({ cls := "HarbourTextModel", name := "prints", desc := "(I)I" } : Jvm.MethodName)) ∈ lw_good := gd_t (tb_3 (List.mem_of_getElem? (i := 238) rfl)) rfl
theorem w_648 : (Jvm.Cond.instanceMethod ({ cls := "HarbourTextModel", name := "prints", desc := "(I)I" } : Jvm.MethodName)) ∈ lw_good := gd_t (tb_4 (List.mem_of_getElem? (i := 0) rfl)) rfl
theorem w_649 : (Jvm.Cond.code ({ cls := "HarbourTextModel", name := "prints", desc := "(I)I" } : Jvm.MethodName) prog_8_method_35_code (6 : Nat) (Option.some Jvm.ClassFile.FieldType.int)) ∈ lw_good := gd_t (tb_4 (List.mem_of_getElem? (i := 1) rfl)) rfl
theorem w_650 : (Jvm.Cond.methodLink "HarbourTextModel" (113 : Nat) ({ cls := "HarbourTextModel", name := "puts", desc := "(III)I" } : Jvm.MethodName)) ∈ lw_good := gd_t (tb_4 (List.mem_of_getElem? (i := 2) rfl)) rfl
theorem w_651 : (Jvm.Cond.instanceMethod ({ cls := "HarbourTextModel", name := "puts", desc := "(III)I" } : Jvm.MethodName)) ∈ lw_good := gd_t (tb_4 (List.mem_of_getElem? (i := 4) rfl)) rfl
theorem w_652 : (Jvm.Cond.code ({ cls := "HarbourTextModel", name := "puts", desc := "(III)I" } : Jvm.MethodName) prog_8_method_34_code (5 : Nat) (Option.some Jvm.ClassFile.FieldType.int)) ∈ lw_good := gd_t (tb_4 (List.mem_of_getElem? (i := 5) rfl)) rfl
theorem w_653 : (Jvm.Cond.methodLink "HarbourTextLaw" (86 : Nat) ({ cls := "HarbourTextModel", name := "at", desc := "(I)I" } : Jvm.MethodName)) ∈ lw_good := gd_t (tb_4 (List.mem_of_getElem? (i := 6) rfl)) rfl
theorem w_654 : (Jvm.Cond.instanceMethod ({ cls := "HarbourTextModel", name := "at", desc := "(I)I" } : Jvm.MethodName)) ∈ lw_good := gd_t (tb_4 (List.mem_of_getElem? (i := 7) rfl)) rfl
theorem w_655 : (Jvm.Cond.selects "HarbourTextModel" ({ cls := "HarbourTextModel", name := "at", desc := "(I)I" } : Jvm.MethodName) ({ cls := "HarbourTextModel", name := "at", desc := "(I)I" } : Jvm.MethodName)) ∈ lw_good := gd_t (tb_4 (List.mem_of_getElem? (i := 8) rfl)) rfl
theorem w_656 : (Jvm.Cond.code ({ cls := "HarbourTextModel", name := "at", desc := "(I)I" } : Jvm.MethodName) prog_8_method_38_code (5 : Nat) (Option.some Jvm.ClassFile.FieldType.int)) ∈ lw_good := gd_t (tb_4 (List.mem_of_getElem? (i := 9) rfl)) rfl
theorem w_657 : (Jvm.Cond.methodLink "HarbourTextModel" (123 : Nat) ({ cls := "HarbourTextModel", name := "order", desc := "(I)I" } : Jvm.MethodName)) ∈ lw_good := gd_t (tb_4 (List.mem_of_getElem? (i := 10) rfl)) rfl
theorem w_658 : (Jvm.Cond.instanceMethod ({ cls := "HarbourTextModel", name := "order", desc := "(I)I" } : Jvm.MethodName)) ∈ lw_good := gd_t (tb_4 (List.mem_of_getElem? (i := 12) rfl)) rfl
theorem w_659 : (Jvm.Cond.code ({ cls := "HarbourTextModel", name := "order", desc := "(I)I" } : Jvm.MethodName) prog_8_method_33_code (7 : Nat) (Option.some Jvm.ClassFile.FieldType.int)) ∈ lw_good := gd_t (tb_4 (List.mem_of_getElem? (i := 13) rfl)) rfl
theorem w_660 : (Jvm.Cond.methodLink "HarbourTextLaw" (90 : Nat) ({ cls := "HarbourTextModel", name := "keep", desc := "()I" } : Jvm.MethodName)) ∈ lw_good := gd_t (tb_4 (List.mem_of_getElem? (i := 14) rfl)) rfl
theorem w_661 : (Jvm.Cond.instanceMethod ({ cls := "HarbourTextModel", name := "keep", desc := "()I" } : Jvm.MethodName)) ∈ lw_good := gd_t (tb_4 (List.mem_of_getElem? (i := 15) rfl)) rfl
theorem w_662 : (Jvm.Cond.selects "HarbourTextModel" ({ cls := "HarbourTextModel", name := "keep", desc := "()I" } : Jvm.MethodName) ({ cls := "HarbourTextModel", name := "keep", desc := "()I" } : Jvm.MethodName)) ∈ lw_good := gd_t (tb_4 (List.mem_of_getElem? (i := 16) rfl)) rfl
theorem w_663 : (Jvm.Cond.code ({ cls := "HarbourTextModel", name := "keep", desc := "()I" } : Jvm.MethodName) prog_8_method_39_code (1 : Nat) (Option.some Jvm.ClassFile.FieldType.int)) ∈ lw_good := gd_t (tb_4 (List.mem_of_getElem? (i := 17) rfl)) rfl
theorem w_664 : (Jvm.Cond.methodLink "HarbourTextLaw" (94 : Nat) ({ cls := "HarbourTextModel", name := "compare", desc := "()I" } : Jvm.MethodName)) ∈ lw_good := gd_t (tb_4 (List.mem_of_getElem? (i := 18) rfl)) rfl
theorem w_665 : (Jvm.Cond.instanceMethod ({ cls := "HarbourTextModel", name := "compare", desc := "()I" } : Jvm.MethodName)) ∈ lw_good := gd_t (tb_4 (List.mem_of_getElem? (i := 19) rfl)) rfl
theorem w_666 : (Jvm.Cond.selects "HarbourTextModel" ({ cls := "HarbourTextModel", name := "compare", desc := "()I" } : Jvm.MethodName) ({ cls := "HarbourTextModel", name := "compare", desc := "()I" } : Jvm.MethodName)) ∈ lw_good := gd_t (tb_4 (List.mem_of_getElem? (i := 20) rfl)) rfl
theorem w_667 : (Jvm.Cond.code ({ cls := "HarbourTextModel", name := "compare", desc := "()I" } : Jvm.MethodName) prog_8_method_41_code (5 : Nat) (Option.some Jvm.ClassFile.FieldType.int)) ∈ lw_good := gd_t (tb_4 (List.mem_of_getElem? (i := 21) rfl)) rfl
theorem w_668 : (Jvm.Cond.methodLink "HarbourTextModel" (129 : Nat) ({ cls := "HarbourTextModel", name := "isAlike", desc := "(II)Z" } : Jvm.MethodName)) ∈ lw_good := gd_t (tb_4 (List.mem_of_getElem? (i := 22) rfl)) rfl
theorem w_669 : (Jvm.Cond.instanceMethod ({ cls := "HarbourTextModel", name := "isAlike", desc := "(II)Z" } : Jvm.MethodName)) ∈ lw_good := gd_t (tb_4 (List.mem_of_getElem? (i := 24) rfl)) rfl
theorem w_670 : (Jvm.Cond.code ({ cls := "HarbourTextModel", name := "isAlike", desc := "(II)Z" } : Jvm.MethodName) prog_8_method_40_code (5 : Nat) (Option.some Jvm.ClassFile.FieldType.boolean)) ∈ lw_good := gd_t (tb_4 (List.mem_of_getElem? (i := 25) rfl)) rfl
theorem w_671 : (Jvm.Cond.methodLink "HarbourTextLaw" (98 : Nat) ({ cls := "HarbourTextModel", name := "count", desc := "(I)I" } : Jvm.MethodName)) ∈ lw_good := gd_t (tb_4 (List.mem_of_getElem? (i := 26) rfl)) rfl
theorem w_672 : (Jvm.Cond.instanceMethod ({ cls := "HarbourTextModel", name := "count", desc := "(I)I" } : Jvm.MethodName)) ∈ lw_good := gd_t (tb_4 (List.mem_of_getElem? (i := 27) rfl)) rfl
theorem w_673 : (Jvm.Cond.selects "HarbourTextModel" ({ cls := "HarbourTextModel", name := "count", desc := "(I)I" } : Jvm.MethodName) ({ cls := "HarbourTextModel", name := "count", desc := "(I)I" } : Jvm.MethodName)) ∈ lw_good := gd_t (tb_4 (List.mem_of_getElem? (i := 28) rfl)) rfl
theorem w_674 : (Jvm.Cond.code ({ cls := "HarbourTextModel", name := "count", desc := "(I)I" } : Jvm.MethodName) prog_8_method_42_code (4 : Nat) (Option.some Jvm.ClassFile.FieldType.int)) ∈ lw_good := gd_t (tb_4 (List.mem_of_getElem? (i := 29) rfl)) rfl
theorem w_675 : (Jvm.Cond.arrayClass Jvm.ClassFile.FieldType.long) ∈ lw_good := gd_t (tb_4 (List.mem_of_getElem? (i := 30) rfl)) rfl
theorem w_676 : (Jvm.Cond.sameMethod "java/lang/Throwable" "java/lang/Throwable" "fillInStackTrace" "(I)Ljava/lang/Throwable;") ∈ lw_good := gd_t (tb_4 (List.mem_of_getElem? (i := 31) rfl)) rfl
theorem w_677 : Cond.selects "HarbourText$Harbour" ({ cls := "HarbourText$Harbour", name := "hasSameNumbers", desc := "(ILHarbourText$Harbour;I)Z" } : Jvm.MethodName) ({ cls := "HarbourText$Harbour", name := "hasSameNumbers", desc := "(ILHarbourText$Harbour;I)Z" } : Jvm.MethodName) ∈ lw_good := gd_s (List.mem_map.mpr ⟨_, List.mem_append_left _ (List.mem_of_getElem? (i := 0) rfl), rfl⟩) rfl
theorem w_678 : Cond.selects "HarbourText$TextReader" ({ cls := "HarbourText$TextReader", name := "readRow", desc := "()Z" } : Jvm.MethodName) ({ cls := "HarbourText$TextReader", name := "readRow", desc := "()Z" } : Jvm.MethodName) ∈ lw_good := gd_s (List.mem_map.mpr ⟨_, List.mem_append_left _ (List.mem_of_getElem? (i := 1) rfl), rfl⟩) rfl
theorem w_679 : Cond.selects "HarbourText$TextReader" ({ cls := "HarbourText$TextReader", name := "kindHere", desc := "()I" } : Jvm.MethodName) ({ cls := "HarbourText$TextReader", name := "kindHere", desc := "()I" } : Jvm.MethodName) ∈ lw_good := gd_s (List.mem_map.mpr ⟨_, List.mem_append_left _ (List.mem_of_getElem? (i := 2) rfl), rfl⟩) rfl
theorem w_680 : Cond.selects "HarbourText$TextReader" ({ cls := "HarbourText$TextReader", name := "signHere", desc := "()I" } : Jvm.MethodName) ({ cls := "HarbourText$TextReader", name := "signHere", desc := "()I" } : Jvm.MethodName) ∈ lw_good := gd_s (List.mem_map.mpr ⟨_, List.mem_append_left _ (List.mem_of_getElem? (i := 3) rfl), rfl⟩) rfl
theorem w_681 : Cond.selects "HarbourText$TextReader" ({ cls := "HarbourText$TextReader", name := "fail", desc := "(II)Z" } : Jvm.MethodName) ({ cls := "HarbourText$TextReader", name := "fail", desc := "(II)Z" } : Jvm.MethodName) ∈ lw_good := gd_s (List.mem_map.mpr ⟨_, List.mem_append_left _ (List.mem_of_getElem? (i := 4) rfl), rfl⟩) rfl
theorem w_682 : Cond.selects "HarbourText$TextReader" ({ cls := "HarbourText$TextReader", name := "readName", desc := "(I)Z" } : Jvm.MethodName) ({ cls := "HarbourText$TextReader", name := "readName", desc := "(I)Z" } : Jvm.MethodName) ∈ lw_good := gd_s (List.mem_map.mpr ⟨_, List.mem_append_left _ (List.mem_of_getElem? (i := 5) rfl), rfl⟩) rfl
theorem w_683 : Cond.selects "HarbourText$TextReader" ({ cls := "HarbourText$TextReader", name := "readDigits", desc := "()I" } : Jvm.MethodName) ({ cls := "HarbourText$TextReader", name := "readDigits", desc := "()I" } : Jvm.MethodName) ∈ lw_good := gd_s (List.mem_map.mpr ⟨_, List.mem_append_left _ (List.mem_of_getElem? (i := 6) rfl), rfl⟩) rfl
theorem w_684 : Cond.selects "HarbourText$TextReader" ({ cls := "HarbourText$TextReader", name := "digitHere", desc := "()I" } : Jvm.MethodName) ({ cls := "HarbourText$TextReader", name := "digitHere", desc := "()I" } : Jvm.MethodName) ∈ lw_good := gd_s (List.mem_map.mpr ⟨_, List.mem_append_left _ (List.mem_of_getElem? (i := 7) rfl), rfl⟩) rfl
theorem w_685 : Cond.selects "HarbourText$TextReader" ({ cls := "HarbourText$TextReader", name := "readSign", desc := "(C)Z" } : Jvm.MethodName) ({ cls := "HarbourText$TextReader", name := "readSign", desc := "(C)Z" } : Jvm.MethodName) ∈ lw_good := gd_s (List.mem_map.mpr ⟨_, List.mem_append_left _ (List.mem_of_getElem? (i := 8) rfl), rfl⟩) rfl
theorem w_686 : Cond.selects "HarbourText$TextReader" ({ cls := "HarbourText$TextReader", name := "readNumber", desc := "(II)Z" } : Jvm.MethodName) ({ cls := "HarbourText$TextReader", name := "readNumber", desc := "(II)Z" } : Jvm.MethodName) ∈ lw_good := gd_s (List.mem_map.mpr ⟨_, List.mem_append_left _ (List.mem_of_getElem? (i := 9) rfl), rfl⟩) rfl
theorem w_687 : Cond.selects "HarbourText$TextReader" ({ cls := "HarbourText$TextReader", name := "judgeNumber", desc := "(III)I" } : Jvm.MethodName) ({ cls := "HarbourText$TextReader", name := "judgeNumber", desc := "(III)I" } : Jvm.MethodName) ∈ lw_good := gd_s (List.mem_map.mpr ⟨_, List.mem_append_left _ (List.mem_of_getElem? (i := 10) rfl), rfl⟩) rfl
theorem w_688 : Cond.selects "java/lang/Throwable" ({ cls := "java/lang/Throwable", name := "fillInStackTrace", desc := "(I)Ljava/lang/Throwable;" } : Jvm.MethodName) ({ cls := "java/lang/Throwable", name := "fillInStackTrace", desc := "(I)Ljava/lang/Throwable;" } : Jvm.MethodName) ∈ lw_good := gd_s (List.mem_map.mpr ⟨_, List.mem_append_left _ (List.mem_of_getElem? (i := 11) rfl), rfl⟩) rfl
theorem w_689 : Cond.selects "HarbourText$Ways" ({ cls := "HarbourText$Ways", name := "spreadOnce", desc := "(LHarbourText$Harbour;I)Z" } : Jvm.MethodName) ({ cls := "HarbourText$Ways", name := "spreadOnce", desc := "(LHarbourText$Harbour;I)Z" } : Jvm.MethodName) ∈ lw_good := gd_s (List.mem_map.mpr ⟨_, List.mem_append_left _ (List.mem_of_getElem? (i := 12) rfl), rfl⟩) rfl
theorem w_690 : Cond.selects "HarbourText$Ways" ({ cls := "HarbourText$Ways", name := "spreadAlong", desc := "(LHarbourText$Harbour;I)Z" } : Jvm.MethodName) ({ cls := "HarbourText$Ways", name := "spreadAlong", desc := "(LHarbourText$Harbour;I)Z" } : Jvm.MethodName) ∈ lw_good := gd_s (List.mem_map.mpr ⟨_, List.mem_append_left _ (List.mem_of_getElem? (i := 13) rfl), rfl⟩) rfl
theorem w_691 : Cond.selects "HarbourText$Ways" ({ cls := "HarbourText$Ways", name := "deepen", desc := "(III)Z" } : Jvm.MethodName) ({ cls := "HarbourText$Ways", name := "deepen", desc := "(III)Z" } : Jvm.MethodName) ∈ lw_good := gd_s (List.mem_map.mpr ⟨_, List.mem_append_left _ (List.mem_of_getElem? (i := 14) rfl), rfl⟩) rfl
theorem w_692 : Cond.selects "HarbourText$BadList" ({ cls := "HarbourText$BadList", name := "addAll", desc := "(LHarbourText$Harbour;LHarbourText$Ways;I)V" } : Jvm.MethodName) ({ cls := "HarbourText$BadList", name := "addAll", desc := "(LHarbourText$Harbour;LHarbourText$Ways;I)V" } : Jvm.MethodName) ∈ lw_good := gd_s (List.mem_map.mpr ⟨_, List.mem_append_left _ (List.mem_of_getElem? (i := 15) rfl), rfl⟩) rfl
theorem w_693 : Cond.selects "HarbourText$Printout" ({ cls := "HarbourText$Printout", name := "writeRow", desc := "(LHarbourText$Harbour;I)V" } : Jvm.MethodName) ({ cls := "HarbourText$Printout", name := "writeRow", desc := "(LHarbourText$Harbour;I)V" } : Jvm.MethodName) ∈ lw_good := gd_s (List.mem_map.mpr ⟨_, List.mem_append_right _ (List.mem_append_left _ (List.mem_of_getElem? (i := 0) rfl)), rfl⟩) rfl
theorem w_694 : Cond.selects "HarbourText$Printout" ({ cls := "HarbourText$Printout", name := "writeSign", desc := "(C)V" } : Jvm.MethodName) ({ cls := "HarbourText$Printout", name := "writeSign", desc := "(C)V" } : Jvm.MethodName) ∈ lw_good := gd_s (List.mem_map.mpr ⟨_, List.mem_append_right _ (List.mem_append_left _ (List.mem_of_getElem? (i := 1) rfl)), rfl⟩) rfl
theorem w_695 : Cond.selects "HarbourText$Printout" ({ cls := "HarbourText$Printout", name := "writeNumber", desc := "(I)V" } : Jvm.MethodName) ({ cls := "HarbourText$Printout", name := "writeNumber", desc := "(I)V" } : Jvm.MethodName) ∈ lw_good := gd_s (List.mem_map.mpr ⟨_, List.mem_append_right _ (List.mem_append_left _ (List.mem_of_getElem? (i := 2) rfl)), rfl⟩) rfl
theorem w_696 : Cond.selects "HarbourTextModel" ({ cls := "HarbourTextModel", name := "readsRow", desc := "(I)I" } : Jvm.MethodName) ({ cls := "HarbourTextModel", name := "readsRow", desc := "(I)I" } : Jvm.MethodName) ∈ lw_good := gd_s (List.mem_map.mpr ⟨_, List.mem_append_right _ (List.mem_append_left _ (List.mem_of_getElem? (i := 3) rfl)), rfl⟩) rfl
theorem w_697 : Cond.selects "HarbourTextModel" ({ cls := "HarbourTextModel", name := "fails", desc := "(II)I" } : Jvm.MethodName) ({ cls := "HarbourTextModel", name := "fails", desc := "(II)I" } : Jvm.MethodName) ∈ lw_good := gd_s (List.mem_map.mpr ⟨_, List.mem_append_right _ (List.mem_append_left _ (List.mem_of_getElem? (i := 4) rfl)), rfl⟩) rfl
theorem w_698 : Cond.selects "HarbourTextModel" ({ cls := "HarbourTextModel", name := "readsNumber", desc := "(III)I" } : Jvm.MethodName) ({ cls := "HarbourTextModel", name := "readsNumber", desc := "(III)I" } : Jvm.MethodName) ∈ lw_good := gd_s (List.mem_map.mpr ⟨_, List.mem_append_right _ (List.mem_append_left _ (List.mem_of_getElem? (i := 5) rfl)), rfl⟩) rfl
theorem w_699 : Cond.selects "HarbourTextModel" ({ cls := "HarbourTextModel", name := "numberAt", desc := "(I)I" } : Jvm.MethodName) ({ cls := "HarbourTextModel", name := "numberAt", desc := "(I)I" } : Jvm.MethodName) ∈ lw_good := gd_s (List.mem_map.mpr ⟨_, List.mem_append_right _ (List.mem_append_left _ (List.mem_of_getElem? (i := 6) rfl)), rfl⟩) rfl
theorem w_700 : Cond.selects "HarbourTextModel" ({ cls := "HarbourTextModel", name := "signAt", desc := "(I)I" } : Jvm.MethodName) ({ cls := "HarbourTextModel", name := "signAt", desc := "(I)I" } : Jvm.MethodName) ∈ lw_good := gd_s (List.mem_map.mpr ⟨_, List.mem_append_right _ (List.mem_append_left _ (List.mem_of_getElem? (i := 7) rfl)), rfl⟩) rfl
theorem w_701 : Cond.selects "HarbourTextModel" ({ cls := "HarbourTextModel", name := "wrong", desc := "(II)I" } : Jvm.MethodName) ({ cls := "HarbourTextModel", name := "wrong", desc := "(II)I" } : Jvm.MethodName) ∈ lw_good := gd_s (List.mem_map.mpr ⟨_, List.mem_append_right _ (List.mem_append_left _ (List.mem_of_getElem? (i := 8) rfl)), rfl⟩) rfl
theorem w_702 : Cond.selects "HarbourTextModel" ({ cls := "HarbourTextModel", name := "findIn", desc := "(IIII)I" } : Jvm.MethodName) ({ cls := "HarbourTextModel", name := "findIn", desc := "(IIII)I" } : Jvm.MethodName) ∈ lw_good := gd_s (List.mem_map.mpr ⟨_, List.mem_append_right _ (List.mem_append_left _ (List.mem_of_getElem? (i := 9) rfl)), rfl⟩) rfl
theorem w_703 : Cond.selects "HarbourTextModel" ({ cls := "HarbourTextModel", name := "refuse", desc := "(I)I" } : Jvm.MethodName) ({ cls := "HarbourTextModel", name := "refuse", desc := "(I)I" } : Jvm.MethodName) ∈ lw_good := gd_s (List.mem_map.mpr ⟨_, List.mem_append_right _ (List.mem_append_left _ (List.mem_of_getElem? (i := 10) rfl)), rfl⟩) rfl
theorem w_704 : Cond.selects "HarbourTextModel" ({ cls := "HarbourTextModel", name := "copies", desc := "(III)V" } : Jvm.MethodName) ({ cls := "HarbourTextModel", name := "copies", desc := "(III)V" } : Jvm.MethodName) ∈ lw_good := gd_s (List.mem_map.mpr ⟨_, List.mem_append_right _ (List.mem_append_left _ (List.mem_of_getElem? (i := 11) rfl)), rfl⟩) rfl
theorem w_705 : Cond.selects "HarbourTextModel" ({ cls := "HarbourTextModel", name := "goes", desc := "(II)V" } : Jvm.MethodName) ({ cls := "HarbourTextModel", name := "goes", desc := "(II)V" } : Jvm.MethodName) ∈ lw_good := gd_s (List.mem_map.mpr ⟨_, List.mem_append_right _ (List.mem_append_left _ (List.mem_of_getElem? (i := 12) rfl)), rfl⟩) rfl
theorem w_706 : Cond.selects "HarbourTextModel" ({ cls := "HarbourTextModel", name := "badAt", desc := "(I)I" } : Jvm.MethodName) ({ cls := "HarbourTextModel", name := "badAt", desc := "(I)I" } : Jvm.MethodName) ∈ lw_good := gd_s (List.mem_map.mpr ⟨_, List.mem_append_right _ (List.mem_append_left _ (List.mem_of_getElem? (i := 13) rfl)), rfl⟩) rfl
theorem w_707 : Cond.selects "HarbourTextModel" ({ cls := "HarbourTextModel", name := "isBad", desc := "(II)Z" } : Jvm.MethodName) ({ cls := "HarbourTextModel", name := "isBad", desc := "(II)Z" } : Jvm.MethodName) ∈ lw_good := gd_s (List.mem_map.mpr ⟨_, List.mem_append_right _ (List.mem_append_left _ (List.mem_of_getElem? (i := 14) rfl)), rfl⟩) rfl
theorem w_708 : Cond.selects "HarbourTextModel" ({ cls := "HarbourTextModel", name := "isTouched", desc := "(II)Z" } : Jvm.MethodName) ({ cls := "HarbourTextModel", name := "isTouched", desc := "(II)Z" } : Jvm.MethodName) ∈ lw_good := gd_s (List.mem_map.mpr ⟨_, List.mem_append_right _ (List.mem_append_left _ (List.mem_of_getElem? (i := 15) rfl)), rfl⟩) rfl
theorem w_709 : Cond.selects "HarbourTextModel" ({ cls := "HarbourTextModel", name := "length", desc := "()I" } : Jvm.MethodName) ({ cls := "HarbourTextModel", name := "length", desc := "()I" } : Jvm.MethodName) ∈ lw_good := gd_s (List.mem_map.mpr ⟨_, List.mem_append_right _ (List.mem_append_right _ (List.mem_of_getElem? (i := 0) rfl)), rfl⟩) rfl
theorem w_710 : Cond.selects "HarbourTextModel" ({ cls := "HarbourTextModel", name := "prints", desc := "(I)I" } : Jvm.MethodName) ({ cls := "HarbourTextModel", name := "prints", desc := "(I)I" } : Jvm.MethodName) ∈ lw_good := gd_s (List.mem_map.mpr ⟨_, List.mem_append_right _ (List.mem_append_right _ (List.mem_of_getElem? (i := 1) rfl)), rfl⟩) rfl
theorem w_711 : Cond.selects "HarbourTextModel" ({ cls := "HarbourTextModel", name := "puts", desc := "(III)I" } : Jvm.MethodName) ({ cls := "HarbourTextModel", name := "puts", desc := "(III)I" } : Jvm.MethodName) ∈ lw_good := gd_s (List.mem_map.mpr ⟨_, List.mem_append_right _ (List.mem_append_right _ (List.mem_of_getElem? (i := 2) rfl)), rfl⟩) rfl
theorem w_712 : Cond.selects "HarbourTextModel" ({ cls := "HarbourTextModel", name := "order", desc := "(I)I" } : Jvm.MethodName) ({ cls := "HarbourTextModel", name := "order", desc := "(I)I" } : Jvm.MethodName) ∈ lw_good := gd_s (List.mem_map.mpr ⟨_, List.mem_append_right _ (List.mem_append_right _ (List.mem_of_getElem? (i := 3) rfl)), rfl⟩) rfl
theorem w_713 : Cond.selects "HarbourTextModel" ({ cls := "HarbourTextModel", name := "isAlike", desc := "(II)Z" } : Jvm.MethodName) ({ cls := "HarbourTextModel", name := "isAlike", desc := "(II)Z" } : Jvm.MethodName) ∈ lw_good := gd_s (List.mem_map.mpr ⟨_, List.mem_append_right _ (List.mem_append_right _ (List.mem_of_getElem? (i := 4) rfl)), rfl⟩) rfl
theorem in_X0 : ∀ w ∈ wsX00, w ∈ lw_good := by
  intro w h
  obtain ⟨k, hk, rfl⟩ := List.mem_map.mp h
  have hk := List.mem_range.mp hk
  rcases (show k = 0 ∨ k = 1 by omega) with rfl | rfl
  · exact w_86
  · exact w_88
theorem in_X1 : ∀ w ∈ wsX10, w ∈ lw_good := by
  intro w h
  obtain ⟨k, hk, rfl⟩ := List.mem_map.mp h
  have hk := List.mem_range.mp hk
  rcases (show k = 0 ∨ k = 1 ∨ k = 2 ∨ k = 3 by omega) with rfl | rfl | rfl | rfl
  · exact w_39
  · exact w_41
  · exact w_43
  · exact w_45
theorem in_X2 : ∀ w ∈ wsX20, w ∈ lw_good := by
  intro w h
  obtain ⟨k, hk, rfl⟩ := List.mem_map.mp h
  have hk := List.mem_range.mp hk
  rcases (show k = 0 ∨ k = 1 by omega) with rfl | rfl
  · exact w_98
  · exact w_100
theorem in_X3 : ∀ w ∈ wsX30, w ∈ lw_good := by
  intro w h
  obtain ⟨k, hk, rfl⟩ := List.mem_map.mp h
  have hk := List.mem_range.mp hk
  rcases (show k = 0 ∨ k = 1 ∨ k = 2 ∨ k = 3 ∨ k = 4 ∨ k = 5 by omega) with rfl | rfl | rfl | rfl | rfl | rfl
  · exact w_56
  · exact w_58
  · exact w_60
  · exact w_62
  · exact w_64
  · exact w_66
theorem in_X4 : ∀ w ∈ wsX40, w ∈ lw_good := by
  intro w h
  obtain ⟨k, hk, rfl⟩ := List.mem_map.mp h
  have hk := List.mem_range.mp hk
  rcases (show k = 0 by omega) with rfl
  · exact w_76
theorem in_X5 : ∀ w ∈ wsX50, w ∈ lw_good := by
  intro w h
  obtain ⟨k, hk, rfl⟩ := List.mem_map.mp h
  have hk := List.mem_range.mp hk
  rcases (show k = 0 ∨ k = 1 ∨ k = 2 ∨ k = 3 ∨ k = 4 ∨ k = 5 by omega) with rfl | rfl | rfl | rfl | rfl | rfl
  · exact w_109
  · exact w_111
  · exact w_113
  · exact w_115
  · exact w_117
  · exact w_119
theorem in_X6 : ∀ w ∈ wsX60, w ∈ lw_good := by
  intro w h
  obtain ⟨k, hk, rfl⟩ := List.mem_map.mp h
  have hk := List.mem_range.mp hk
  rcases (show k = 0 ∨ k = 1 ∨ k = 2 ∨ k = 3 ∨ k = 4 ∨ k = 5 ∨ k = 6 ∨ k = 7 ∨ k = 8 ∨ k = 9 ∨ k = 10 by omega) with rfl | rfl | rfl | rfl | rfl | rfl | rfl | rfl | rfl | rfl | rfl
  · exact w_514
  · exact w_516
  · exact w_518
  · exact w_520
  · exact w_522
  · exact w_524
  · exact w_526
  · exact w_528
  · exact w_530
  · exact w_532
  · exact w_534
def wsX5_init : List Cond := .code yX5_init cX5_init 1 none :: lw_good
def wsX3_init : List Cond := .code yX3_init cX3_init 1 none :: lw_good
def wsX1_init : List Cond := .code yX1_init cX1_init 1 none :: lw_good
def wsX4_init : List Cond := .code yX4_init cX4_init 1 none :: lw_good
def wsX0_init : List Cond := .code yX0_init cX0_init 1 none :: lw_good
def wsX2_init : List Cond := .code yX2_init cX2_init 1 none :: lw_good
def wsX5_sign : List Cond := .code yX5_sign cX5_sign 2 (some .boolean) :: lw_good
def wsX3_collect : List Cond := .code yX3_collect cX3_collect 2 (some .boolean) :: lw_good
def wsX5_failure : List Cond := .code yX5_failure cX5_failure 2 (some .int) :: lw_good
def wsX3_failureNumber : List Cond := .code yX3_failureNumber cX3_failureNumber 1 (some .int) :: lw_good
def wsX3_failurePlace : List Cond := .code yX3_failurePlace cX3_failurePlace 1 (some .int) :: lw_good
def wsX5_find : List Cond := .code yX5_find cX5_find 3 (some .int) :: lw_good
def wsX1_indexOf : List Cond := .code yX1_indexOf cX1_indexOf 4 (some .int) :: lw_good
def wsX5_bad : List Cond := .code yX5_bad cX5_bad 1 (some .int) :: lw_good
def wsX0_size : List Cond := .code yX0_size cX0_size 1 (some .int) :: lw_good
def wsX5_unjoined : List Cond := .code yX5_unjoined cX5_unjoined 2 (some .int) :: lw_good
def wsX0_entry : List Cond := .code yX0_entry cX0_entry 2 (some .int) :: lw_good
def wsX5_print : List Cond := .code yX5_print cX5_print 1 (some .int) :: lw_good
def wsX2_length : List Cond := .code yX2_length cX2_length 1 (some .int) :: lw_good
def wsX5_keep : List Cond := .code yX5_keep cX5_keep 1 (some .int) :: lw_good
def wsX1_copyFrom : List Cond := .code yX1_copyFrom cX1_copyFrom 2 none :: lw_good
def wsX1_size : List Cond := .code yX1_size cX1_size 1 (some .int) :: lw_good
def wsX5_compare : List Cond := .code yX5_compare cX5_compare 1 (some .int) :: lw_good
def wsX1_missingIn : List Cond := .code yX1_missingIn cX1_missingIn 4 (some .int) :: lw_good
def wsX1_changedIn : List Cond := .code yX1_changedIn cX1_changedIn 5 (some .int) :: lw_good
def wsX1_hasSameNumbers : List Cond := .code yX1_hasSameNumbers cX1_hasSameNumbers 6 (some .boolean) :: lw_good
def wsX1_kindOf : List Cond := .code yX1_kindOf cX1_kindOf 2 (some .int) :: lw_good
def wsX5_numbersOfKind : List Cond := .code yX5_numbersOfKind cX5_numbersOfKind 1 (some .int) :: lw_good
def wsX5_isKind : List Cond := .code yX5_isKind cX5_isKind 1 (some .boolean) :: lw_good
def wsX1_numberOf : List Cond := .code yX1_numberOf cX1_numberOf 3 (some .int) :: lw_good
def wsX5_count : List Cond := .code yX5_count cX5_count 2 (some .int) :: lw_good
def wsX3_length : List Cond := .code yX3_length cX3_length 1 (some .int) :: lw_good
def wsX1_sizeOfKind : List Cond := .code yX1_sizeOfKind cX1_sizeOfKind 4 (some .int) :: lw_good
abbrev hL_read : List (Nat × Nat × Nat × Nat) := [(0, 8, 11, 13)]
def wsL_read : List Cond := .codeWith yL_read cL_read 3 (some .int) hL_read :: lw_good
def wsX5_read : List Cond := .code yX5_read cX5_read 1 (some .int) :: lw_good
def wsX3_readAll : List Cond := .code yX3_readAll cX3_readAll 3 (some .boolean) :: lw_good
def wsX1_clear : List Cond := .code yX1_clear cX1_clear 1 none :: lw_good
def wsX3_readRow : List Cond := .code yX3_readRow cX3_readRow 4 (some .boolean) :: lw_good
def wsX3_kindHere : List Cond := .code yX3_kindHere cX3_kindHere 3 (some .int) :: lw_good
def wsX3_signHere : List Cond := .code yX3_signHere cX3_signHere 1 (some .int) :: lw_good
def wsX3_fail : List Cond := .code yX3_fail cX3_fail 3 (some .boolean) :: lw_good
def wsX1_isFull : List Cond := .code yX1_isFull cX1_isFull 1 (some .boolean) :: lw_good
def wsX3_readName : List Cond := .code yX3_readName cX3_readName 4 (some .boolean) :: lw_good
def wsX3_readDigits : List Cond := .code yX3_readDigits cX3_readDigits 3 (some .int) :: lw_good
def wsX3_digitHere : List Cond := .code yX3_digitHere cX3_digitHere 2 (some .int) :: lw_good
def wsX1_begin : List Cond := .code yX1_begin cX1_begin 3 none :: lw_good
def wsX3_readSign : List Cond := .code yX3_readSign cX3_readSign 2 (some .boolean) :: lw_good
def wsX3_readNumber : List Cond := .code yX3_readNumber cX3_readNumber 6 (some .boolean) :: lw_good
def wsX3_judgeNumber : List Cond := .code yX3_judgeNumber cX3_judgeNumber 4 (some .int) :: lw_good
def wsX3_isInRange : List Cond := .code yX3_isInRange cX3_isInRange 4 (some .boolean) :: lw_good
def wsX1_setNumber : List Cond := .code yX1_setNumber cX1_setNumber 3 none :: lw_good
def wsX3_result : List Cond := .code yX3_result cX3_result 1 (some (.object "HarbourText$Harbour")) :: lw_good
def wsX0_judge : List Cond := .code yX0_judge cX0_judge 4 none :: lw_good
def wsX4_spread : List Cond := .code yX4_spread cX4_spread 6 none :: lw_good
def wsX4_spreadOnce : List Cond := .code yX4_spreadOnce cX4_spreadOnce 6 (some .boolean) :: lw_good
def wsX4_spreadAlong : List Cond := .code yX4_spreadAlong cX4_spreadAlong 6 (some .boolean) :: lw_good
def wsX4_deepen : List Cond := .code yX4_deepen cX4_deepen 5 (some .boolean) :: lw_good
def wsX5_isPoint : List Cond := .code yX5_isPoint cX5_isPoint 1 (some .boolean) :: lw_good
def wsX0_addAll : List Cond := .code yX0_addAll cX0_addAll 6 none :: lw_good
def wsX0_holds : List Cond := .code yX0_holds cX0_holds 6 (some .boolean) :: lw_good
def wsX1_hasPieceAt : List Cond := .code yX1_hasPieceAt cX1_hasPieceAt 4 (some .boolean) :: lw_good
def wsX4_depthAt : List Cond := .code yX4_depthAt cX4_depthAt 2 (some .int) :: lw_good
def wsX2_write : List Cond := .code yX2_write cX2_write 6 none :: lw_good
def wsX1_nextBehind : List Cond := .code yX1_nextBehind cX1_nextBehind 4 (some .int) :: lw_good
def wsX1_rankOf : List Cond := .code yX1_rankOf cX1_rankOf 2 (some .int) :: lw_good
def wsX1_nameOf : List Cond := .code yX1_nameOf cX1_nameOf 2 (some .int) :: lw_good
def wsX2_writeRow : List Cond := .code yX2_writeRow cX2_writeRow 6 none :: lw_good
def wsX2_writeSign : List Cond := .code yX2_writeSign cX2_writeSign 2 none :: lw_good
def wsX2_writeNumber : List Cond := .code yX2_writeNumber cX2_writeNumber 2 none :: lw_good
abbrev hL_piece : List (Nat × Nat × Nat × Nat) := [(0, 10, 13, 19)]
def wsL_piece : List Cond := .codeWith yL_piece cL_piece 5 (some .int) hL_piece :: lw_good
def wsX5_piece : List Cond := .code yX5_piece cX5_piece 4 (some .int) :: lw_good
abbrev hL_reach : List (Nat × Nat × Nat × Nat) := [(0, 12, 15, 25)]
def wsL_reach : List Cond := .codeWith yL_reach cL_reach 6 (some .int) hL_reach :: lw_good
def wsX5_reach : List Cond := .code yX5_reach cX5_reach 4 (some .int) :: lw_good
abbrev hL_deep : List (Nat × Nat × Nat × Nat) := [(0, 10, 13, 25)]
def wsL_deep : List Cond := .codeWith yL_deep cL_deep 5 (some .int) hL_deep :: lw_good
def wsX5_deep : List Cond := .code yX5_deep cX5_deep 3 (some .int) :: lw_good
abbrev hL_at : List (Nat × Nat × Nat × Nat) := [(0, 9, 12, 19)]
def wsL_at : List Cond := .codeWith yL_at cL_at 4 (some .int) hL_at :: lw_good
def wsX5_at : List Cond := .code yX5_at cX5_at 2 (some .int) :: lw_good
def wsX2_signAt : List Cond := .code yX2_signAt cX2_signAt 2 (some .int) :: lw_good
def wsX6_init : List Cond := .code yX6_init cX6_init 1 none :: lw_good
def wsX6_thrown : List Cond := .code yX6_thrown cX6_thrown 1 (some .int) :: lw_good
def wsX6_sign : List Cond := .code yX6_sign cX6_sign 2 (some .boolean) :: lw_good
def wsX6_in : List Cond := .code yX6_in cX6_in 3 (some .boolean) :: lw_good
def wsX6_read : List Cond := .code yX6_read cX6_read 2 (some .int) :: lw_good
def wsX6_readsRow : List Cond := .code yX6_readsRow cX6_readsRow 6 (some .int) :: lw_good
def wsX6_kindOf : List Cond := .code yX6_kindOf cX6_kindOf 3 (some .int) :: lw_good
def wsX6_letterOf : List Cond := .code yX6_letterOf cX6_letterOf 1 (some .int) :: lw_good
def wsX6_fails : List Cond := .code yX6_fails cX6_fails 3 (some .int) :: lw_good
def wsX6_readsNumber : List Cond := .code yX6_readsNumber cX6_readsNumber 7 (some .int) :: lw_good
def wsX6_numberAt : List Cond := .code yX6_numberAt cX6_numberAt 4 (some .int) :: lw_good
def wsX6_signAt : List Cond := .code yX6_signAt cX6_signAt 2 (some .int) :: lw_good
def wsX6_isDigit : List Cond := .code yX6_isDigit cX6_isDigit 1 (some .boolean) :: lw_good
def wsX6_wrong : List Cond := .code yX6_wrong cX6_wrong 6 (some .int) :: lw_good
def wsX6_findIn : List Cond := .code yX6_findIn cX6_findIn 7 (some .int) :: lw_good
def wsX6_isRange : List Cond := .code yX6_isRange cX6_isRange 3 (some .boolean) :: lw_good
def wsX6_numbersOf : List Cond := .code yX6_numbersOf cX6_numbersOf 1 (some .int) :: lw_good
def wsX6_refuse : List Cond := .code yX6_refuse cX6_refuse 2 (some .int) :: lw_good
def wsX6_copies : List Cond := .code yX6_copies cX6_copies 5 none :: lw_good
def wsX6_failure : List Cond := .code yX6_failure cX6_failure 2 (some .int) :: lw_good
def wsX6_piece : List Cond := .code yX6_piece cX6_piece 4 (some .int) :: lw_good
def wsX6_find : List Cond := .code yX6_find cX6_find 3 (some .int) :: lw_good
def wsX6_reach : List Cond := .code yX6_reach cX6_reach 4 (some .int) :: lw_good
def wsX6_isPoint : List Cond := .code yX6_isPoint cX6_isPoint 1 (some .boolean) :: lw_good
def wsX6_goes : List Cond := .code yX6_goes cX6_goes 9 none :: lw_good
def wsX6_less : List Cond := .code yX6_less cX6_less 2 (some .int) :: lw_good
def wsX6_deep : List Cond := .code yX6_deep cX6_deep 3 (some .int) :: lw_good
def wsX6_bad : List Cond := .code yX6_bad cX6_bad 1 (some .int) :: lw_good
def wsX6_badAt : List Cond := .code yX6_badAt cX6_badAt 6 (some .int) :: lw_good
def wsX6_isBad : List Cond := .code yX6_isBad cX6_isBad 5 (some .boolean) :: lw_good
def wsX6_isTouched : List Cond := .code yX6_isTouched cX6_isTouched 5 (some .boolean) :: lw_good
def wsX6_unjoined : List Cond := .code yX6_unjoined cX6_unjoined 3 (some .int) :: lw_good
def wsX6_print : List Cond := .code yX6_print cX6_print 1 (some .int) :: lw_good
def wsX6_length : List Cond := .code yX6_length cX6_length 3 (some .int) :: lw_good
def wsX6_prints : List Cond := .code yX6_prints cX6_prints 6 (some .int) :: lw_good
def wsX6_puts : List Cond := .code yX6_puts cX6_puts 5 (some .int) :: lw_good
def wsX6_at : List Cond := .code yX6_at cX6_at 5 (some .int) :: lw_good
def wsX6_order : List Cond := .code yX6_order cX6_order 7 (some .int) :: lw_good
def wsX6_keep : List Cond := .code yX6_keep cX6_keep 1 (some .int) :: lw_good
def wsX6_compare : List Cond := .code yX6_compare cX6_compare 5 (some .int) :: lw_good
def wsX6_isAlike : List Cond := .code yX6_isAlike cX6_isAlike 5 (some .boolean) :: lw_good
def wsX6_count : List Cond := .code yX6_count cX6_count 4 (some .int) :: lw_good
