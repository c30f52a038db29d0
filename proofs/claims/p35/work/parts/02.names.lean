def RX0 : String := "LatinRectangles$Completions"
def TX0 : u_T := fun k => match k with
  | 0 => ("LatinRectangles$Completions", "grid", "LLatinRectangles$Grid;", true)
  | 1 => ("LatinRectangles$Completions", "work", "LLatinRectangles$Grid;", true)
  | 2 => ("LatinRectangles$Completions", "open", "[I", true)
  | _ => ("LatinRectangles$Completions", "openCount", "I", false)
def tyX0 : Nat → FieldType := fun k => match k with
  | 0 => .object "LatinRectangles$Grid"
  | 1 => .object "LatinRectangles$Grid"
  | 2 => .array .int
  | _ => .int
abbrev wsX00 : List Cond := u_ws RX0 TX0 4
theorem nmX0 : ∀ a, a < 4 → ∀ b, b < 4 → a ≠ b → (TX0 a).2.1 ≠ (TX0 b).2.1 := by decide +kernel
theorem tyX0_ok : ∀ k, k < 4 → parseFieldDescriptor (TX0 k).2.2.1 = some (tyX0 k) := by decide +kernel
abbrev cX0_init : ByteArray := prog_2_method_1_code
def yX0_init : MethodName := ⟨RX0, "<init>", "(LLatinRectangles$Grid;)V"⟩
abbrev cX0_count : ByteArray := prog_2_method_2_code
def yX0_count : MethodName := ⟨RX0, "count", "(I)I"⟩
abbrev cX0_firstSymbol : ByteArray := prog_2_method_3_code
def yX0_firstSymbol : MethodName := ⟨RX0, "firstSymbol", "(II)I"⟩
abbrev cX0_possibleBits : ByteArray := prog_2_method_4_code
def yX0_possibleBits : MethodName := ⟨RX0, "possibleBits", "(II)I"⟩
abbrev cX0_putLowest : ByteArray := prog_2_method_5_code
def yX0_putLowest : MethodName := ⟨RX0, "putLowest", "(II)V"⟩
abbrev cX0_countInWork : ByteArray := prog_2_method_6_code
def yX0_countInWork : MethodName := ⟨RX0, "countInWork", "(I)I"⟩
abbrev cX0_countFrom : ByteArray := prog_2_method_7_code
def yX0_countFrom : MethodName := ⟨RX0, "countFrom", "(LLatinRectangles$Completions;II)I"⟩
abbrev cX0_bringTightest : ByteArray := prog_2_method_8_code
def yX0_bringTightest : MethodName := ⟨RX0, "bringTightest", "(I)I"⟩
def RX1 : String := "LatinRectangles$Cycles"
def TX1 : u_T := fun k => match k with
  | 0 => ("LatinRectangles$Cycles", "grid", "LLatinRectangles$Grid;", true)
  | 1 => ("LatinRectangles$Cycles", "ordered", "[I", true)
  | _ => ("LatinRectangles$Cycles", "count", "I", false)
def tyX1 : Nat → FieldType := fun k => match k with
  | 0 => .object "LatinRectangles$Grid"
  | 1 => .array .int
  | _ => .int
abbrev wsX10 : List Cond := u_ws RX1 TX1 3
theorem nmX1 : ∀ a, a < 3 → ∀ b, b < 3 → a ≠ b → (TX1 a).2.1 ≠ (TX1 b).2.1 := by decide +kernel
theorem tyX1_ok : ∀ k, k < 3 → parseFieldDescriptor (TX1 k).2.2.1 = some (tyX1 k) := by decide +kernel
abbrev cX1_init : ByteArray := prog_3_method_1_code
def yX1_init : MethodName := ⟨RX1, "<init>", "(LLatinRectangles$Grid;)V"⟩
abbrev cX1_columnBits : ByteArray := prog_3_method_2_code
def yX1_columnBits : MethodName := ⟨RX1, "columnBits", "(III)I"⟩
abbrev cX1_columnWith : ByteArray := prog_3_method_3_code
def yX1_columnWith : MethodName := ⟨RX1, "columnWith", "(II)I"⟩
abbrev cX1_canSwitch : ByteArray := prog_3_method_8_code
def yX1_canSwitch : MethodName := ⟨RX1, "canSwitch", "(III)Z"⟩
abbrev cX1_exchange : ByteArray := prog_3_method_9_code
def yX1_exchange : MethodName := ⟨RX1, "exchange", "(III)V"⟩
abbrev cX1_countIntercalates : ByteArray := prog_3_method_10_code
def yX1_countIntercalates : MethodName := ⟨RX1, "countIntercalates", "()I"⟩
abbrev cX1_isIntercalate : ByteArray := prog_3_method_11_code
def yX1_isIntercalate : MethodName := ⟨RX1, "isIntercalate", "(IIII)Z"⟩
def RX2 : String := "LatinRectangles$Forces"
def TX2 : u_T := fun k => match k with
  | _ => ("LatinRectangles$Forces", "grid", "LLatinRectangles$Grid;", true)
def tyX2 : Nat → FieldType := fun k => match k with
  | _ => .object "LatinRectangles$Grid"
abbrev wsX20 : List Cond := u_ws RX2 TX2 1
theorem nmX2 : ∀ a, a < 1 → ∀ b, b < 1 → a ≠ b → (TX2 a).2.1 ≠ (TX2 b).2.1 := by decide +kernel
theorem tyX2_ok : ∀ k, k < 1 → parseFieldDescriptor (TX2 k).2.2.1 = some (tyX2 k) := by decide +kernel
abbrev cX2_init : ByteArray := prog_4_method_1_code
def yX2_init : MethodName := ⟨RX2, "<init>", "(LLatinRectangles$Grid;)V"⟩
abbrev cX2_count : ByteArray := prog_4_method_2_code
def yX2_count : MethodName := ⟨RX2, "count", "()I"⟩
abbrev cX2_cellByPlace : ByteArray := prog_4_method_3_code
def yX2_cellByPlace : MethodName := ⟨RX2, "cellByPlace", "(I)I"⟩
abbrev cX2_reasonFor : ByteArray := prog_4_method_4_code
def yX2_reasonFor : MethodName := ⟨RX2, "reasonFor", "(II)I"⟩
abbrev cX2_symbolFor : ByteArray := prog_4_method_5_code
def yX2_symbolFor : MethodName := ⟨RX2, "symbolFor", "(II)I"⟩
abbrev cX2_bitsByReason : ByteArray := prog_4_method_6_code
def yX2_bitsByReason : MethodName := ⟨RX2, "bitsByReason", "(III)I"⟩
abbrev cX2_elsewhereInRow : ByteArray := prog_4_method_7_code
def yX2_elsewhereInRow : MethodName := ⟨RX2, "elsewhereInRow", "(II)I"⟩
abbrev cX2_elsewhereInColumn : ByteArray := prog_4_method_8_code
def yX2_elsewhereInColumn : MethodName := ⟨RX2, "elsewhereInColumn", "(II)I"⟩
def RX3 : String := "LatinRectangles$Grid"
def TX3 : u_T := fun k => match k with
  | 0 => ("LatinRectangles$Grid", "cells", "[I", true)
  | 1 => ("LatinRectangles$Grid", "given", "[Z", true)
  | 2 => ("LatinRectangles$Grid", "banned", "[I", true)
  | 3 => ("LatinRectangles$Grid", "rowUsed", "[I", true)
  | 4 => ("LatinRectangles$Grid", "columnUsed", "[I", true)
  | 5 => ("LatinRectangles$Grid", "rows", "I", false)
  | 6 => ("LatinRectangles$Grid", "columns", "I", false)
  | 7 => ("LatinRectangles$Grid", "filled", "I", false)
  | 8 => ("LatinRectangles$Grid", "givens", "I", false)
  | _ => ("LatinRectangles$Grid", "bans", "I", false)
def tyX3 : Nat → FieldType := fun k => match k with
  | 0 => .array .int
  | 1 => .array .boolean
  | 2 => .array .int
  | 3 => .array .int
  | 4 => .array .int
  | 5 => .int
  | 6 => .int
  | 7 => .int
  | 8 => .int
  | _ => .int
abbrev wsX30 : List Cond := u_ws RX3 TX3 10
theorem nmX3 : ∀ a, a < 10 → ∀ b, b < 10 → a ≠ b → (TX3 a).2.1 ≠ (TX3 b).2.1 := by decide +kernel
theorem tyX3_ok : ∀ k, k < 10 → parseFieldDescriptor (TX3 k).2.2.1 = some (tyX3 k) := by decide +kernel
abbrev cX3_init : ByteArray := prog_5_method_1_code
def yX3_init : MethodName := ⟨RX3, "<init>", "()V"⟩
abbrev cX3_begin : ByteArray := prog_5_method_2_code
def yX3_begin : MethodName := ⟨RX3, "begin", "(II)V"⟩
abbrev cX3_clearCells : ByteArray := prog_5_method_3_code
def yX3_clearCells : MethodName := ⟨RX3, "clearCells", "()V"⟩
abbrev cX3_copyFrom : ByteArray := prog_5_method_4_code
def yX3_copyFrom : MethodName := ⟨RX3, "copyFrom", "(LLatinRectangles$Grid;)V"⟩
abbrev cX3_load : ByteArray := prog_5_method_5_code
def yX3_load : MethodName := ⟨RX3, "load", "([I)V"⟩
abbrev cX3_store : ByteArray := prog_5_method_6_code
def yX3_store : MethodName := ⟨RX3, "store", "([I)V"⟩
abbrev cX3_put : ByteArray := prog_5_method_7_code
def yX3_put : MethodName := ⟨RX3, "put", "(III)V"⟩
abbrev cX3_take : ByteArray := prog_5_method_8_code
def yX3_take : MethodName := ⟨RX3, "take", "(II)V"⟩
abbrev cX3_give : ByteArray := prog_5_method_9_code
def yX3_give : MethodName := ⟨RX3, "give", "(III)V"⟩
abbrev cX3_forbid : ByteArray := prog_5_method_10_code
def yX3_forbid : MethodName := ⟨RX3, "forbid", "(II)V"⟩
abbrev cX3_isForbidden : ByteArray := prog_5_method_11_code
def yX3_isForbidden : MethodName := ⟨RX3, "isForbidden", "(II)Z"⟩
abbrev cX3_candidateBits : ByteArray := prog_5_method_12_code
def yX3_candidateBits : MethodName := ⟨RX3, "candidateBits", "(II)I"⟩
abbrev cX3_isFullRow : ByteArray := prog_5_method_13_code
def yX3_isFullRow : MethodName := ⟨RX3, "isFullRow", "(I)Z"⟩
abbrev cX3_fullRows : ByteArray := prog_5_method_14_code
def yX3_fullRows : MethodName := ⟨RX3, "fullRows", "()I"⟩
abbrev cX3_deadCells : ByteArray := prog_5_method_15_code
def yX3_deadCells : MethodName := ⟨RX3, "deadCells", "()I"⟩
def RX4 : String := "LatinRectangles$History"
def TX4 : u_T := fun k => match k with
  | 0 => ("LatinRectangles$History", "fillings", "[[I", true)
  | 1 => ("LatinRectangles$History", "next", "I", false)
  | _ => ("LatinRectangles$History", "count", "I", false)
def tyX4 : Nat → FieldType := fun k => match k with
  | 0 => .array (.array .int)
  | 1 => .int
  | _ => .int
abbrev wsX40 : List Cond := u_ws RX4 TX4 3
theorem nmX4 : ∀ a, a < 3 → ∀ b, b < 3 → a ≠ b → (TX4 a).2.1 ≠ (TX4 b).2.1 := by decide +kernel
theorem tyX4_ok : ∀ k, k < 3 → parseFieldDescriptor (TX4 k).2.2.1 = some (tyX4 k) := by decide +kernel
abbrev cX4_init : ByteArray := prog_6_method_1_code
def yX4_init : MethodName := ⟨RX4, "<init>", "()V"⟩
abbrev cX4_clear : ByteArray := prog_6_method_2_code
def yX4_clear : MethodName := ⟨RX4, "clear", "()V"⟩
abbrev cX4_record : ByteArray := prog_6_method_3_code
def yX4_record : MethodName := ⟨RX4, "record", "(LLatinRectangles$Grid;)V"⟩
def RX5 : String := "LatinRectangles$Parser"
def TX5 : u_T := fun k => match k with
  | 0 => ("LatinRectangles$Parser", "text", "LLatinRectangles$Text;", true)
  | 1 => ("LatinRectangles$Parser", "draft", "LLatinRectangles$Grid;", true)
  | 2 => ("LatinRectangles$Parser", "code", "I", false)
  | _ => ("LatinRectangles$Parser", "position", "I", false)
def tyX5 : Nat → FieldType := fun k => match k with
  | 0 => .object "LatinRectangles$Text"
  | 1 => .object "LatinRectangles$Grid"
  | 2 => .int
  | _ => .int
abbrev wsX50 : List Cond := u_ws RX5 TX5 4
theorem nmX5 : ∀ a, a < 4 → ∀ b, b < 4 → a ≠ b → (TX5 a).2.1 ≠ (TX5 b).2.1 := by decide +kernel
theorem tyX5_ok : ∀ k, k < 4 → parseFieldDescriptor (TX5 k).2.2.1 = some (tyX5 k) := by decide +kernel
abbrev cX5_init : ByteArray := prog_7_method_1_code
def yX5_init : MethodName := ⟨RX5, "<init>", "(LLatinRectangles$Text;)V"⟩
abbrev cX5_read : ByteArray := prog_7_method_2_code
def yX5_read : MethodName := ⟨RX5, "read", "(I)Z"⟩
abbrev cX5_fail : ByteArray := prog_7_method_3_code
def yX5_fail : MethodName := ⟨RX5, "fail", "(I)Z"⟩
abbrev cX5_readHeader : ByteArray := prog_7_method_4_code
def yX5_readHeader : MethodName := ⟨RX5, "readHeader", "()Z"⟩
abbrev cX5_readStatement : ByteArray := prog_7_method_5_code
def yX5_readStatement : MethodName := ⟨RX5, "readStatement", "()Z"⟩
abbrev cX5_readGiven : ByteArray := prog_7_method_6_code
def yX5_readGiven : MethodName := ⟨RX5, "readGiven", "(II)Z"⟩
abbrev cX5_readBan : ByteArray := prog_7_method_7_code
def yX5_readBan : MethodName := ⟨RX5, "readBan", "(II)Z"⟩
abbrev cX5_readNumber : ByteArray := prog_7_method_8_code
def yX5_readNumber : MethodName := ⟨RX5, "readNumber", "()Z"⟩
abbrev cX5_readNumberWithin : ByteArray := prog_7_method_9_code
def yX5_readNumberWithin : MethodName := ⟨RX5, "readNumberWithin", "(II)Z"⟩
abbrev cX5_readSemicolon : ByteArray := prog_7_method_10_code
def yX5_readSemicolon : MethodName := ⟨RX5, "readSemicolon", "()Z"⟩
def RX6 : String := "LatinRectangles$Snapshots"
def TX6 : u_T := fun k => match k with
  | 0 => ("LatinRectangles$Snapshots", "fillings", "[[I", true)
  | _ => ("LatinRectangles$Snapshots", "saved", "[Z", true)
def tyX6 : Nat → FieldType := fun k => match k with
  | 0 => .array (.array .int)
  | _ => .array .boolean
abbrev wsX60 : List Cond := u_ws RX6 TX6 2
theorem nmX6 : ∀ a, a < 2 → ∀ b, b < 2 → a ≠ b → (TX6 a).2.1 ≠ (TX6 b).2.1 := by decide +kernel
theorem tyX6_ok : ∀ k, k < 2 → parseFieldDescriptor (TX6 k).2.2.1 = some (tyX6 k) := by decide +kernel
abbrev cX6_init : ByteArray := prog_8_method_1_code
def yX6_init : MethodName := ⟨RX6, "<init>", "()V"⟩
abbrev cX6_clear : ByteArray := prog_8_method_2_code
def yX6_clear : MethodName := ⟨RX6, "clear", "()V"⟩
def RX7 : String := "LatinRectangles$Text"
def TX7 : u_T := fun k => match k with
  | 0 => ("LatinRectangles$Text", "bytes", "[B", true)
  | 1 => ("LatinRectangles$Text", "length", "I", false)
  | 2 => ("LatinRectangles$Text", "end", "I", false)
  | 3 => ("LatinRectangles$Text", "next", "I", false)
  | 4 => ("LatinRectangles$Text", "kind", "I", false)
  | 5 => ("LatinRectangles$Text", "start", "I", false)
  | _ => ("LatinRectangles$Text", "value", "I", false)
def tyX7 : Nat → FieldType := fun k => match k with
  | 0 => .array .byte
  | 1 => .int
  | 2 => .int
  | 3 => .int
  | 4 => .int
  | 5 => .int
  | _ => .int
abbrev wsX70 : List Cond := u_ws RX7 TX7 7
theorem nmX7 : ∀ a, a < 7 → ∀ b, b < 7 → a ≠ b → (TX7 a).2.1 ≠ (TX7 b).2.1 := by decide +kernel
theorem tyX7_ok : ∀ k, k < 7 → parseFieldDescriptor (TX7 k).2.2.1 = some (tyX7 k) := by decide +kernel
abbrev cX7_init : ByteArray := prog_9_method_1_code
def yX7_init : MethodName := ⟨RX7, "<init>", "()V"⟩
abbrev cX7_add : ByteArray := prog_9_method_2_code
def yX7_add : MethodName := ⟨RX7, "add", "(I)V"⟩
abbrev cX7_open : ByteArray := prog_9_method_3_code
def yX7_open : MethodName := ⟨RX7, "open", "(I)V"⟩
abbrev cX7_advance : ByteArray := prog_9_method_4_code
def yX7_advance : MethodName := ⟨RX7, "advance", "()V"⟩
abbrev cX7_runEnd : ByteArray := prog_9_method_5_code
def yX7_runEnd : MethodName := ⟨RX7, "runEnd", "(II)I"⟩
abbrev cX7_readValue : ByteArray := prog_9_method_6_code
def yX7_readValue : MethodName := ⟨RX7, "readValue", "()V"⟩
abbrev cX7_isWord : ByteArray := prog_9_method_7_code
def yX7_isWord : MethodName := ⟨RX7, "isWord", "(Ljava/lang/String;)Z"⟩
def RX8 : String := "LatinRectangles$Transversals"
def TX8 : u_T := fun k => match k with
  | 0 => ("LatinRectangles$Transversals", "grid", "LLatinRectangles$Grid;", true)
  | 1 => ("LatinRectangles$Transversals", "chosen", "[I", true)
  | 2 => ("LatinRectangles$Transversals", "fixedRow", "I", false)
  | _ => ("LatinRectangles$Transversals", "fixedColumn", "I", false)
def tyX8 : Nat → FieldType := fun k => match k with
  | 0 => .object "LatinRectangles$Grid"
  | 1 => .array .int
  | 2 => .int
  | _ => .int
abbrev wsX80 : List Cond := u_ws RX8 TX8 4
theorem nmX8 : ∀ a, a < 4 → ∀ b, b < 4 → a ≠ b → (TX8 a).2.1 ≠ (TX8 b).2.1 := by decide +kernel
theorem tyX8_ok : ∀ k, k < 4 → parseFieldDescriptor (TX8 k).2.2.1 = some (tyX8 k) := by decide +kernel
abbrev cX8_init : ByteArray := prog_10_method_1_code
def yX8_init : MethodName := ⟨RX8, "<init>", "(LLatinRectangles$Grid;)V"⟩
abbrev cX8_count : ByteArray := prog_10_method_2_code
def yX8_count : MethodName := ⟨RX8, "count", "(II)I"⟩
abbrev cX8_firstColumn : ByteArray := prog_10_method_3_code
def yX8_firstColumn : MethodName := ⟨RX8, "firstColumn", "(I)I"⟩
abbrev cX8_countFrom : ByteArray := prog_10_method_5_code
def yX8_countFrom : MethodName := ⟨RX8, "countFrom", "(LLatinRectangles$Transversals;III)I"⟩
abbrev cX8_chooseFrom : ByteArray := prog_10_method_6_code
def yX8_chooseFrom : MethodName := ⟨RX8, "chooseFrom", "(LLatinRectangles$Transversals;III)Z"⟩
abbrev cX8_isFree : ByteArray := prog_10_method_8_code
def yX8_isFree : MethodName := ⟨RX8, "isFree", "(IIII)Z"⟩
abbrev cX8_symbolBit : ByteArray := prog_10_method_9_code
def yX8_symbolBit : MethodName := ⟨RX8, "symbolBit", "(II)I"⟩
def RX9 : String := "LatinRectangles"
def TX9 : u_T := fun k => match k with
  | 0 => ("LatinRectangles", "grid", "LLatinRectangles$Grid;", true)
  | 1 => ("LatinRectangles", "text", "LLatinRectangles$Text;", true)
  | 2 => ("LatinRectangles", "parser", "LLatinRectangles$Parser;", true)
  | 3 => ("LatinRectangles", "forces", "LLatinRectangles$Forces;", true)
  | 4 => ("LatinRectangles", "search", "LLatinRectangles$Completions;", true)
  | 5 => ("LatinRectangles", "choices", "LLatinRectangles$Transversals;", true)
  | 6 => ("LatinRectangles", "cycles", "LLatinRectangles$Cycles;", true)
  | 7 => ("LatinRectangles", "history", "LLatinRectangles$History;", true)
  | 8 => ("LatinRectangles", "snapshots", "LLatinRectangles$Snapshots;", true)
  | 9 => ("LatinRectangles", "plan", "[I", true)
  | _ => ("LatinRectangles", "errorAt", "I", false)
def tyX9 : Nat → FieldType := fun k => match k with
  | 0 => .object "LatinRectangles$Grid"
  | 1 => .object "LatinRectangles$Text"
  | 2 => .object "LatinRectangles$Parser"
  | 3 => .object "LatinRectangles$Forces"
  | 4 => .object "LatinRectangles$Completions"
  | 5 => .object "LatinRectangles$Transversals"
  | 6 => .object "LatinRectangles$Cycles"
  | 7 => .object "LatinRectangles$History"
  | 8 => .object "LatinRectangles$Snapshots"
  | 9 => .array .int
  | _ => .int
abbrev wsX90 : List Cond := u_ws RX9 TX9 11
theorem nmX9 : ∀ a, a < 11 → ∀ b, b < 11 → a ≠ b → (TX9 a).2.1 ≠ (TX9 b).2.1 := by decide +kernel
theorem tyX9_ok : ∀ k, k < 11 → parseFieldDescriptor (TX9 k).2.2.1 = some (tyX9 k) := by decide +kernel
abbrev cX9_init : ByteArray := prog_1_method_1_code
def yX9_init : MethodName := ⟨RX9, "<init>", "()V"⟩
abbrev cX9_append : ByteArray := prog_1_method_2_code
def yX9_append : MethodName := ⟨RX9, "append", "(IIIII)I"⟩
abbrev cX9_parse : ByteArray := prog_1_method_3_code
def yX9_parse : MethodName := ⟨RX9, "parse", "(I)I"⟩
abbrev cX9_size : ByteArray := prog_1_method_5_code
def yX9_size : MethodName := ⟨RX9, "size", "(I)I"⟩
abbrev cX9_symbol : ByteArray := prog_1_method_6_code
def yX9_symbol : MethodName := ⟨RX9, "symbol", "(II)I"⟩
abbrev cX9_isGiven : ByteArray := prog_1_method_7_code
def yX9_isGiven : MethodName := ⟨RX9, "isGiven", "(II)Z"⟩
abbrev cX9_candidates : ByteArray := prog_1_method_8_code
def yX9_candidates : MethodName := ⟨RX9, "candidates", "(II)I"⟩
abbrev cX9_forcedCells : ByteArray := prog_1_method_9_code
def yX9_forcedCells : MethodName := ⟨RX9, "forcedCells", "()I"⟩
abbrev cX9_forced : ByteArray := prog_1_method_10_code
def yX9_forced : MethodName := ⟨RX9, "forced", "(II)I"⟩
abbrev cX9_completions : ByteArray := prog_1_method_14_code
def yX9_completions : MethodName := ⟨RX9, "completions", "(I)I"⟩
abbrev cX9_completed : ByteArray := prog_1_method_15_code
def yX9_completed : MethodName := ⟨RX9, "completed", "(II)I"⟩
abbrev cX9_possible : ByteArray := prog_1_method_16_code
def yX9_possible : MethodName := ⟨RX9, "possible", "(II)I"⟩
abbrev cX9_transversals : ByteArray := prog_1_method_17_code
def yX9_transversals : MethodName := ⟨RX9, "transversals", "()I"⟩
abbrev cX9_transversalsThrough : ByteArray := prog_1_method_18_code
def yX9_transversalsThrough : MethodName := ⟨RX9, "transversalsThrough", "(II)I"⟩
abbrev cX9_firstTransversal : ByteArray := prog_1_method_19_code
def yX9_firstTransversal : MethodName := ⟨RX9, "firstTransversal", "(I)I"⟩
abbrev cX9_cycle : ByteArray := prog_1_method_21_code
def yX9_cycle : MethodName := ⟨RX9, "cycle", "(III)I"⟩
abbrev cX9_intercalates : ByteArray := prog_1_method_23_code
def yX9_intercalates : MethodName := ⟨RX9, "intercalates", "()I"⟩
abbrev cX9_fill : ByteArray := prog_1_method_26_code
def yX9_fill : MethodName := ⟨RX9, "fill", "(III)I"⟩
abbrev cX9_empty : ByteArray := prog_1_method_27_code
def yX9_empty : MethodName := ⟨RX9, "empty", "(II)I"⟩
abbrev cX9_propagate : ByteArray := prog_1_method_28_code
def yX9_propagate : MethodName := ⟨RX9, "propagate", "()I"⟩
abbrev cX9_fillRow : ByteArray := prog_1_method_29_code
def yX9_fillRow : MethodName := ⟨RX9, "fillRow", "(I)I"⟩
abbrev cX9_switchCycle : ByteArray := prog_1_method_30_code
def yX9_switchCycle : MethodName := ⟨RX9, "switchCycle", "(III)I"⟩
abbrev cX9_checkRow : ByteArray := prog_1_method_34_code
def yX9_checkRow : MethodName := ⟨RX9, "checkRow", "(I)V"⟩
abbrev cX9_checkCell : ByteArray := prog_1_method_35_code
def yX9_checkCell : MethodName := ⟨RX9, "checkCell", "(II)V"⟩
abbrev cX9_checkCycle : ByteArray := prog_1_method_36_code
def yX9_checkCycle : MethodName := ⟨RX9, "checkCycle", "(III)V"⟩
abbrev cX9_checkProperty : ByteArray := prog_1_method_39_code
def yX9_checkProperty : MethodName := ⟨RX9, "checkProperty", "(II)V"⟩
abbrev cX9_planRow : ByteArray := prog_1_method_41_code
def yX9_planRow : MethodName := ⟨RX9, "planRow", "(LLatinRectangles$Grid;III[I)Z"⟩
def RX10 : String := "LatinRectanglesLaw$Grid"
def TX10 : u_T := fun k => match k with
  | 0 => ("LatinRectanglesLaw$Grid", "rows", "I", false)
  | 1 => ("LatinRectanglesLaw$Grid", "columns", "I", false)
  | 2 => ("LatinRectanglesLaw$Grid", "bans", "I", false)
  | 3 => ("LatinRectanglesLaw$Grid", "givens", "I", false)
  | 4 => ("LatinRectanglesLaw$Grid", "cell", "[[I", false)
  | 5 => ("LatinRectanglesLaw$Grid", "given", "[[Z", false)
  | 6 => ("LatinRectanglesLaw$Grid", "ban", "[[[Z", false)
  | 7 => ("LatinRectanglesLaw$Grid", "count", "I", false)
  | 8 => ("LatinRectanglesLaw$Grid", "first", "[[I", false)
  | 9 => ("LatinRectanglesLaw$Grid", "seen", "[[I", false)
  | 10 => ("LatinRectanglesLaw$Grid", "firstWay", "[I", false)
  | _ => ("LatinRectanglesLaw$Grid", "through", "[[I", false)
def tyX10 : Nat → FieldType := fun k => match k with
  | 0 => .int
  | 1 => .int
  | 2 => .int
  | 3 => .int
  | 4 => .array (.array .int)
  | 5 => .array (.array .boolean)
  | 6 => .array (.array (.array .boolean))
  | 7 => .int
  | 8 => .array (.array .int)
  | 9 => .array (.array .int)
  | 10 => .array .int
  | _ => .array (.array .int)
abbrev wsX100 : List Cond := u_ws RX10 TX10 12
theorem nmX10 : ∀ a, a < 12 → ∀ b, b < 12 → a ≠ b → (TX10 a).2.1 ≠ (TX10 b).2.1 := by decide +kernel
theorem tyX10_ok : ∀ k, k < 12 → parseFieldDescriptor (TX10 k).2.2.1 = some (tyX10 k) := by decide +kernel
abbrev cX10_init : ByteArray := prog_12_method_1_code
def yX10_init : MethodName := ⟨RX10, "<init>", "(II)V"⟩
abbrev cX10_can : ByteArray := prog_12_method_2_code
def yX10_can : MethodName := ⟨RX10, "can", "(III)Z"⟩
abbrev cX10_candidates : ByteArray := prog_12_method_3_code
def yX10_candidates : MethodName := ⟨RX10, "candidates", "(II)I"⟩
abbrev cX10_forced : ByteArray := prog_12_method_4_code
def yX10_forced : MethodName := ⟨RX10, "forced", "(II)[I"⟩
abbrev cX10_complete : ByteArray := prog_12_method_5_code
def yX10_complete : MethodName := ⟨RX10, "complete", "(I)V"⟩
abbrev cX10_goesOn : ByteArray := prog_12_method_6_code
def yX10_goesOn : MethodName := ⟨RX10, "goesOn", "(II)V"⟩
abbrev cX10_copy : ByteArray := prog_12_method_7_code
def yX10_copy : MethodName := ⟨RX10, "copy", "()[[I"⟩
abbrev cX10_transversals : ByteArray := prog_12_method_8_code
def yX10_transversals : MethodName := ⟨RX10, "transversals", "()I"⟩
abbrev cX10_across : ByteArray := prog_12_method_9_code
def yX10_across : MethodName := ⟨RX10, "across", "(I[I)I"⟩
abbrev cX10_full : ByteArray := prog_12_method_10_code
def yX10_full : MethodName := ⟨RX10, "full", "(I)Z"⟩
abbrev cX10_cycle : ByteArray := prog_12_method_11_code
def yX10_cycle : MethodName := ⟨RX10, "cycle", "(III)[Z"⟩
abbrev cX10_filled : ByteArray := prog_12_method_12_code
def yX10_filled : MethodName := ⟨RX10, "filled", "()I"⟩
abbrev cX10_fillRow : ByteArray := prog_12_method_13_code
def yX10_fillRow : MethodName := ⟨RX10, "fillRow", "(II)Z"⟩
def RX11 : String := "LatinRectanglesModel"
def TX11 : u_T := fun k => match k with
  | _ => ("", "", "", false)
def tyX11 : Nat → FieldType := fun k => match k with
  | _ => .int
abbrev wsX110 : List Cond := u_ws RX11 TX11 0
theorem nmX11 : ∀ a, a < 0 → ∀ b, b < 0 → a ≠ b → (TX11 a).2.1 ≠ (TX11 b).2.1 := by decide +kernel
theorem tyX11_ok : ∀ k, k < 0 → parseFieldDescriptor (TX11 k).2.2.1 = some (tyX11 k) := by decide +kernel
def RJ5 : String := "java/lang/AbstractStringBuilder"
def TJ5 : u_T := fun k => match k with
  | _ => ("", "", "", false)
def tyJ5 : Nat → FieldType := fun k => match k with
  | _ => .int
abbrev wsJ50 : List Cond := u_ws RJ5 TJ5 0
theorem nmJ5 : ∀ a, a < 0 → ∀ b, b < 0 → a ≠ b → (TJ5 a).2.1 ≠ (TJ5 b).2.1 := by decide +kernel
theorem tyJ5_ok : ∀ k, k < 0 → parseFieldDescriptor (TJ5 k).2.2.1 = some (tyJ5 k) := by decide +kernel
abbrev cJ5_init_d00df : ByteArray := prog_14_method_2_code
def yJ5_init_d00df : MethodName := ⟨RJ5, "<init>", "(I)V"⟩
abbrev cJ5_length_8abf5 : ByteArray := prog_14_method_6_code
def yJ5_length_8abf5 : MethodName := ⟨RJ5, "length", "()I"⟩
abbrev cJ5_ensureCapacityInternal_d00df : ByteArray := prog_14_method_9_code
def yJ5_ensureCapacityInternal_d00df : MethodName := ⟨RJ5, "ensureCapacityInternal", "(I)V"⟩
abbrev cJ5_newCapacity_0f7a4 : ByteArray := prog_14_method_10_code
def yJ5_newCapacity_0f7a4 : MethodName := ⟨RJ5, "newCapacity", "(I)I"⟩
abbrev cJ5_inflate_da8c8 : ByteArray := prog_14_method_11_code
def yJ5_inflate_da8c8 : MethodName := ⟨RJ5, "inflate", "()V"⟩
abbrev cJ5_append_cf1ce : ByteArray := prog_14_method_22_code
def yJ5_append_cf1ce : MethodName := ⟨RJ5, "append", "(Ljava/lang/String;)Ljava/lang/AbstractStringBuilder;"⟩
abbrev cJ5_appendNull_278bc : ByteArray := prog_14_method_26_code
def yJ5_appendNull_278bc : MethodName := ⟨RJ5, "appendNull", "()Ljava/lang/AbstractStringBuilder;"⟩
abbrev cJ5_append_3fe6f : ByteArray := prog_14_method_31_code
def yJ5_append_3fe6f : MethodName := ⟨RJ5, "append", "(C)Ljava/lang/AbstractStringBuilder;"⟩
abbrev cJ5_append_c97b9 : ByteArray := prog_14_method_32_code
def yJ5_append_c97b9 : MethodName := ⟨RJ5, "append", "(I)Ljava/lang/AbstractStringBuilder;"⟩
abbrev cJ5_getValue_6d5f1 : ByteArray := prog_14_method_64_code
def yJ5_getValue_6d5f1 : MethodName := ⟨RJ5, "getValue", "()[B"⟩
abbrev cJ5_isLatin1_aae02 : ByteArray := prog_14_method_68_code
def yJ5_isLatin1_aae02 : MethodName := ⟨RJ5, "isLatin1", "()Z"⟩
abbrev cJ5_inflateIfNeededFor_a7421 : ByteArray := prog_14_method_71_code
def yJ5_inflateIfNeededFor_a7421 : MethodName := ⟨RJ5, "inflateIfNeededFor", "(Ljava/lang/String;)V"⟩
abbrev cJ5_putStringAt_47b60 : ByteArray := prog_14_method_73_code
def yJ5_putStringAt_47b60 : MethodName := ⟨RJ5, "putStringAt", "(ILjava/lang/String;)V"⟩
def RJ6 : String := "java/lang/Integer"
def TJ6 : u_T := fun k => match k with
  | _ => ("", "", "", false)
def tyJ6 : Nat → FieldType := fun k => match k with
  | _ => .int
abbrev wsJ60 : List Cond := u_ws RJ6 TJ6 0
theorem nmJ6 : ∀ a, a < 0 → ∀ b, b < 0 → a ≠ b → (TJ6 a).2.1 ≠ (TJ6 b).2.1 := by decide +kernel
theorem tyJ6_ok : ∀ k, k < 0 → parseFieldDescriptor (TJ6 k).2.2.1 = some (tyJ6 k) := by decide +kernel
abbrev cJ6_getChars_ba4f3 : ByteArray := prog_20_method_12_code
def yJ6_getChars_ba4f3 : MethodName := ⟨RJ6, "getChars", "(II[B)I"⟩
abbrev cJ6_stringSize_0f7a4 : ByteArray := prog_20_method_13_code
def yJ6_stringSize_0f7a4 : MethodName := ⟨RJ6, "stringSize", "(I)I"⟩
abbrev cJ6_numberOfTrailingZeros_0f7a4 : ByteArray := prog_20_method_48_code
def yJ6_numberOfTrailingZeros_0f7a4 : MethodName := ⟨RJ6, "numberOfTrailingZeros", "(I)I"⟩
abbrev cJ6_bitCount_0f7a4 : ByteArray := prog_20_method_49_code
def yJ6_bitCount_0f7a4 : MethodName := ⟨RJ6, "bitCount", "(I)I"⟩
def RJ9 : String := "java/lang/Math"
def TJ9 : u_T := fun k => match k with
  | _ => ("", "", "", false)
def tyJ9 : Nat → FieldType := fun k => match k with
  | _ => .int
abbrev wsJ90 : List Cond := u_ws RJ9 TJ9 0
theorem nmJ9 : ∀ a, a < 0 → ∀ b, b < 0 → a ≠ b → (TJ9 a).2.1 ≠ (TJ9 b).2.1 := by decide +kernel
theorem tyJ9_ok : ∀ k, k < 0 → parseFieldDescriptor (TJ9 k).2.2.1 = some (tyJ9 k) := by decide +kernel
abbrev cJ9_max_7cf53 : ByteArray := prog_21_method_65_code
def yJ9_max_7cf53 : MethodName := ⟨RJ9, "max", "(II)I"⟩
abbrev cJ9_min_7cf53 : ByteArray := prog_21_method_69_code
def yJ9_min_7cf53 : MethodName := ⟨RJ9, "min", "(II)I"⟩
def RJ0 : String := "java/lang/String"
def TJ0 : u_T := fun k => match k with
  | 0 => ("java/lang/String", "value", "[B", true)
  | 1 => ("java/lang/String", "coder", "B", true)
  | 2 => ("java/lang/String", "hash", "I", false)
  | _ => ("java/lang/String", "hashIsZero", "Z", false)
def tyJ0 : Nat → FieldType := fun k => match k with
  | 0 => .array .byte
  | 1 => .byte
  | 2 => .int
  | _ => .boolean
abbrev wsJ00 : List Cond := u_ws RJ0 TJ0 4
theorem nmJ0 : ∀ a, a < 4 → ∀ b, b < 4 → a ≠ b → (TJ0 a).2.1 ≠ (TJ0 b).2.1 := by decide +kernel
theorem tyJ0_ok : ∀ k, k < 4 → parseFieldDescriptor (TJ0 k).2.2.1 = some (tyJ0 k) := by decide +kernel
abbrev cJ0_init_81219 : ByteArray := prog_23_method_53_code
def yJ0_init_81219 : MethodName := ⟨RJ0, "<init>", "(Ljava/lang/StringBuilder;)V"⟩
abbrev cJ0_length_8abf5 : ByteArray := prog_23_method_54_code
def yJ0_length_8abf5 : MethodName := ⟨RJ0, "length", "()I"⟩
abbrev cJ0_charAt_5068e : ByteArray := prog_23_method_56_code
def yJ0_charAt_5068e : MethodName := ⟨RJ0, "charAt", "(I)C"⟩
abbrev cJ0_getBytes_840e7 : ByteArray := prog_23_method_147_code
def yJ0_getBytes_840e7 : MethodName := ⟨RJ0, "getBytes", "([BIB)V"⟩
abbrev cJ0_init_db425 : ByteArray := prog_23_method_150_code
def yJ0_init_db425 : MethodName := ⟨RJ0, "<init>", "(Ljava/lang/AbstractStringBuilder;Ljava/lang/Void;)V"⟩
abbrev cJ0_coder_7d493 : ByteArray := prog_23_method_152_code
def yJ0_coder_7d493 : MethodName := ⟨RJ0, "coder", "()B"⟩
abbrev cJ0_isLatin1_aae02 : ByteArray := prog_23_method_154_code
def yJ0_isLatin1_aae02 : MethodName := ⟨RJ0, "isLatin1", "()Z"⟩
abbrev cJ0_checkIndex_df160 : ByteArray := prog_23_method_155_code
def yJ0_checkIndex_df160 : MethodName := ⟨RJ0, "checkIndex", "(II)V"⟩
abbrev cJ0_checkBoundsOffCount_cabcc : ByteArray := prog_23_method_157_code
def yJ0_checkBoundsOffCount_cabcc : MethodName := ⟨RJ0, "checkBoundsOffCount", "(III)I"⟩
abbrev cJ0_checkBoundsBeginEnd_23922 : ByteArray := prog_23_method_158_code
def yJ0_checkBoundsBeginEnd_23922 : MethodName := ⟨RJ0, "checkBoundsBeginEnd", "(III)V"⟩
def RJ4 : String := "java/lang/StringBuilder"
def TJ4 : u_T := fun k => match k with
  | 0 => ("java/lang/AbstractStringBuilder", "value", "[B", false)
  | 1 => ("java/lang/AbstractStringBuilder", "coder", "B", false)
  | 2 => ("java/lang/AbstractStringBuilder", "maybeLatin1", "Z", false)
  | _ => ("java/lang/AbstractStringBuilder", "count", "I", false)
def tyJ4 : Nat → FieldType := fun k => match k with
  | 0 => .array .byte
  | 1 => .byte
  | 2 => .boolean
  | _ => .int
abbrev wsJ40 : List Cond := u_ws RJ4 TJ4 4
theorem nmJ4 : ∀ a, a < 4 → ∀ b, b < 4 → a ≠ b → (TJ4 a).2.1 ≠ (TJ4 b).2.1 := by decide +kernel
theorem tyJ4_ok : ∀ k, k < 4 → parseFieldDescriptor (TJ4 k).2.2.1 = some (tyJ4 k) := by decide +kernel
abbrev cJ4_init_da8c8 : ByteArray := prog_24_method_1_code
def yJ4_init_da8c8 : MethodName := ⟨RJ4, "<init>", "()V"⟩
abbrev cJ4_append_15ec4 : ByteArray := prog_24_method_7_code
def yJ4_append_15ec4 : MethodName := ⟨RJ4, "append", "(Ljava/lang/String;)Ljava/lang/StringBuilder;"⟩
abbrev cJ4_append_cf468 : ByteArray := prog_24_method_14_code
def yJ4_append_cf468 : MethodName := ⟨RJ4, "append", "(C)Ljava/lang/StringBuilder;"⟩
abbrev cJ4_append_bf812 : ByteArray := prog_24_method_15_code
def yJ4_append_bf812 : MethodName := ⟨RJ4, "append", "(I)Ljava/lang/StringBuilder;"⟩
abbrev cJ4_toString_0e30d : ByteArray := prog_24_method_42_code
def yJ4_toString_0e30d : MethodName := ⟨RJ4, "toString", "()Ljava/lang/String;"⟩
abbrev cJ4_length_8abf5 : ByteArray := prog_24_method_93_code
def yJ4_length_8abf5 : MethodName := ⟨RJ4, "length", "()I"⟩
def RJ1 : String := "java/lang/StringLatin1"
def TJ1 : u_T := fun k => match k with
  | _ => ("", "", "", false)
def tyJ1 : Nat → FieldType := fun k => match k with
  | _ => .int
abbrev wsJ10 : List Cond := u_ws RJ1 TJ1 0
theorem nmJ1 : ∀ a, a < 0 → ∀ b, b < 0 → a ≠ b → (TJ1 a).2.1 ≠ (TJ1 b).2.1 := by decide +kernel
theorem tyJ1_ok : ∀ k, k < 0 → parseFieldDescriptor (TJ1 k).2.2.1 = some (tyJ1 k) := by decide +kernel
abbrev cJ1_charAt_3b067 : ByteArray := prog_25_method_2_code
def yJ1_charAt_3b067 : MethodName := ⟨RJ1, "charAt", "([BI)C"⟩
abbrev cJ1_canEncode_fc78d : ByteArray := prog_25_method_3_code
def yJ1_canEncode_fc78d : MethodName := ⟨RJ1, "canEncode", "(C)Z"⟩
abbrev cJ1_inflate_0e8fd : ByteArray := prog_25_method_50_code
def yJ1_inflate_0e8fd : MethodName := ⟨RJ1, "inflate", "([BI[BII)V"⟩
def RJ2 : String := "java/lang/StringUTF16"
def TJ2 : u_T := fun k => match k with
  | _ => ("", "", "", false)
def tyJ2 : Nat → FieldType := fun k => match k with
  | _ => .int
abbrev wsJ20 : List Cond := u_ws RJ2 TJ2 0
theorem nmJ2 : ∀ a, a < 0 → ∀ b, b < 0 → a ≠ b → (TJ2 a).2.1 ≠ (TJ2 b).2.1 := by decide +kernel
theorem tyJ2_ok : ∀ k, k < 0 → parseFieldDescriptor (TJ2 k).2.2.1 = some (tyJ2 k) := by decide +kernel
abbrev cJ2_newBytesFor_77867 : ByteArray := prog_26_method_2_code
def yJ2_newBytesFor_77867 : MethodName := ⟨RJ2, "newBytesFor", "(I)[B"⟩
abbrev cJ2_newBytesLength_0f7a4 : ByteArray := prog_26_method_3_code
def yJ2_newBytesLength_0f7a4 : MethodName := ⟨RJ2, "newBytesLength", "(I)I"⟩
abbrev cJ2_putChar_b72d1 : ByteArray := prog_26_method_4_code
def yJ2_putChar_b72d1 : MethodName := ⟨RJ2, "putChar", "([BII)V"⟩
abbrev cJ2_getChar_3b067 : ByteArray := prog_26_method_5_code
def yJ2_getChar_3b067 : MethodName := ⟨RJ2, "getChar", "([BI)C"⟩
abbrev cJ2_length_9d52b : ByteArray := prog_26_method_6_code
def yJ2_length_9d52b : MethodName := ⟨RJ2, "length", "([B)I"⟩
abbrev cJ2_coderFromArrayLen_85cad : ByteArray := prog_26_method_15_code
def yJ2_coderFromArrayLen_85cad : MethodName := ⟨RJ2, "coderFromArrayLen", "([BI)B"⟩
abbrev cJ2_compress_39247 : ByteArray := prog_26_method_17_code
def yJ2_compress_39247 : MethodName := ⟨RJ2, "compress", "([BII)[B"⟩
abbrev cJ2_compress_5af95 : ByteArray := prog_26_method_22_code
def yJ2_compress_5af95 : MethodName := ⟨RJ2, "compress", "([BI[BII)I"⟩
abbrev cJ2_putCharSB_b72d1 : ByteArray := prog_26_method_71_code
def yJ2_putCharSB_b72d1 : MethodName := ⟨RJ2, "putCharSB", "([BII)V"⟩
abbrev cJ2_getChars_46870 : ByteArray := prog_26_method_77_code
def yJ2_getChars_46870 : MethodName := ⟨RJ2, "getChars", "(III[B)I"⟩
abbrev cJ2_putCharsAt_cd4e5 : ByteArray := prog_26_method_81_code
def yJ2_putCharsAt_cd4e5 : MethodName := ⟨RJ2, "putCharsAt", "([BICCCC)I"⟩
abbrev cJ2_charAt_3b067 : ByteArray := prog_26_method_83_code
def yJ2_charAt_3b067 : MethodName := ⟨RJ2, "charAt", "([BI)C"⟩
abbrev cJ2_inflate_0e8fd : ByteArray := prog_26_method_86_code
def yJ2_inflate_0e8fd : MethodName := ⟨RJ2, "inflate", "([BI[BII)V"⟩
abbrev cJ2_getChars_ba4f3 : ByteArray := prog_26_method_89_code
def yJ2_getChars_ba4f3 : MethodName := ⟨RJ2, "getChars", "(II[B)I"⟩
abbrev cJ2_checkIndex_2214a : ByteArray := prog_26_method_91_code
def yJ2_checkIndex_2214a : MethodName := ⟨RJ2, "checkIndex", "(I[B)V"⟩
abbrev cJ2_checkBoundsBeginEnd_d044e : ByteArray := prog_26_method_93_code
def yJ2_checkBoundsBeginEnd_d044e : MethodName := ⟨RJ2, "checkBoundsBeginEnd", "(II[B)V"⟩
abbrev cJ2_checkBoundsOffCount_d044e : ByteArray := prog_26_method_94_code
def yJ2_checkBoundsOffCount_d044e : MethodName := ⟨RJ2, "checkBoundsOffCount", "(II[B)V"⟩
def RJ10 : String := "java/lang/System"
def TJ10 : u_T := fun k => match k with
  | _ => ("", "", "", false)
def tyJ10 : Nat → FieldType := fun k => match k with
  | _ => .int
abbrev wsJ100 : List Cond := u_ws RJ10 TJ10 0
theorem nmJ10 : ∀ a, a < 0 → ∀ b, b < 0 → a ≠ b → (TJ10 a).2.1 ≠ (TJ10 b).2.1 := by decide +kernel
theorem tyJ10_ok : ∀ k, k < 0 → parseFieldDescriptor (TJ10 k).2.2.1 = some (tyJ10 k) := by decide +kernel
def RJ7 : String := "java/util/Arrays"
def TJ7 : u_T := fun k => match k with
  | _ => ("", "", "", false)
def tyJ7 : Nat → FieldType := fun k => match k with
  | _ => .int
abbrev wsJ70 : List Cond := u_ws RJ7 TJ7 0
theorem nmJ7 : ∀ a, a < 0 → ∀ b, b < 0 → a ≠ b → (TJ7 a).2.1 ≠ (TJ7 b).2.1 := by decide +kernel
theorem tyJ7_ok : ∀ k, k < 0 → parseFieldDescriptor (TJ7 k).2.2.1 = some (tyJ7 k) := by decide +kernel
abbrev cJ7_copyOf_9075b : ByteArray := prog_29_method_121_code
def yJ7_copyOf_9075b : MethodName := ⟨RJ7, "copyOf", "([BI)[B"⟩
abbrev cJ7_checkLength_df160 : ByteArray := prog_29_method_131_code
def yJ7_checkLength_df160 : MethodName := ⟨RJ7, "checkLength", "(II)V"⟩
abbrev cJ7_copyOfRange_39247 : ByteArray := prog_29_method_132_code
def yJ7_copyOfRange_39247 : MethodName := ⟨RJ7, "copyOfRange", "([BII)[B"⟩
abbrev cJ7_copyOfRangeByte_39247 : ByteArray := prog_29_method_133_code
def yJ7_copyOfRangeByte_39247 : MethodName := ⟨RJ7, "copyOfRangeByte", "([BII)[B"⟩
def RJ8 : String := "jdk/internal/util/ArraysSupport"
def TJ8 : u_T := fun k => match k with
  | _ => ("", "", "", false)
def tyJ8 : Nat → FieldType := fun k => match k with
  | _ => .int
abbrev wsJ80 : List Cond := u_ws RJ8 TJ8 0
theorem nmJ8 : ∀ a, a < 0 → ∀ b, b < 0 → a ≠ b → (TJ8 a).2.1 ≠ (TJ8 b).2.1 := by decide +kernel
theorem tyJ8_ok : ∀ k, k < 0 → parseFieldDescriptor (TJ8 k).2.2.1 = some (tyJ8 k) := by decide +kernel
abbrev cJ8_newLength_cabcc : ByteArray := prog_30_method_27_code
def yJ8_newLength_cabcc : MethodName := ⟨RJ8, "newLength", "(III)I"⟩
abbrev cJ8_hugeLength_7cf53 : ByteArray := prog_30_method_28_code
def yJ8_hugeLength_7cf53 : MethodName := ⟨RJ8, "hugeLength", "(II)I"⟩
def RJ3 : String := "jdk/internal/util/Preconditions"
def TJ3 : u_T := fun k => match k with
  | _ => ("", "", "", false)
def tyJ3 : Nat → FieldType := fun k => match k with
  | _ => .int
abbrev wsJ30 : List Cond := u_ws RJ3 TJ3 0
theorem nmJ3 : ∀ a, a < 0 → ∀ b, b < 0 → a ≠ b → (TJ3 a).2.1 ≠ (TJ3 b).2.1 := by decide +kernel
theorem tyJ3_ok : ∀ k, k < 0 → parseFieldDescriptor (TJ3 k).2.2.1 = some (tyJ3 k) := by decide +kernel
abbrev cJ3_checkIndex_8e157 : ByteArray := prog_31_method_11_code
def yJ3_checkIndex_8e157 : MethodName := ⟨RJ3, "checkIndex", "(IILjava/util/function/BiFunction;)I"⟩
abbrev cJ3_checkFromToIndex_8c36e : ByteArray := prog_31_method_12_code
def yJ3_checkFromToIndex_8c36e : MethodName := ⟨RJ3, "checkFromToIndex", "(IIILjava/util/function/BiFunction;)I"⟩
abbrev cJ3_checkFromIndexSize_8c36e : ByteArray := prog_31_method_13_code
def yJ3_checkFromIndexSize_8c36e : MethodName := ⟨RJ3, "checkFromIndexSize", "(IIILjava/util/function/BiFunction;)I"⟩
def RL : String := "LatinRectanglesLaw"
abbrev cL_feeds : ByteArray := method_2_code
def yL_feeds : MethodName := ⟨RL, "feeds", "(LLatinRectangles;Ljava/lang/String;)Z"⟩
abbrev cL_draw : ByteArray := method_3_code
def yL_draw : MethodName := ⟨RL, "draw", "([II)I"⟩
abbrev cL_size : ByteArray := method_4_code
def yL_size : MethodName := ⟨RL, "size", "([Z)I"⟩
abbrev cL_law : ByteArray := code
def yL_law : MethodName := ⟨RL, "law", "([I)Z"⟩
abbrev cL_grid : ByteArray := method_6_code
def yL_grid : MethodName := ⟨RL, "grid", "(Ljava/lang/StringBuilder;[I)LLatinRectanglesLaw$Grid;"⟩
abbrev cL_plays : ByteArray := method_7_code
def yL_plays : MethodName := ⟨RL, "plays", "(LLatinRectangles;[I)Z"⟩
abbrev cL_acts : ByteArray := method_8_code
def yL_acts : MethodName := ⟨RL, "acts", "(LLatinRectangles;LLatinRectanglesLaw$Grid;[I)Z"⟩
abbrev cL_fills : ByteArray := method_9_code
def yL_fills : MethodName := ⟨RL, "fills", "(LLatinRectangles;III)I"⟩
abbrev cL_empties : ByteArray := method_10_code
def yL_empties : MethodName := ⟨RL, "empties", "(LLatinRectangles;II)I"⟩
abbrev cL_fillsRow : ByteArray := method_11_code
def yL_fillsRow : MethodName := ⟨RL, "fillsRow", "(LLatinRectangles;I)I"⟩
abbrev cL_switches : ByteArray := method_12_code
def yL_switches : MethodName := ⟨RL, "switches", "(LLatinRectangles;III)I"⟩
abbrev cL_cells : ByteArray := method_13_code
def yL_cells : MethodName := ⟨RL, "cells", "(LLatinRectangles;LLatinRectanglesLaw$Grid;)Z"⟩
abbrev cL_wholes : ByteArray := method_14_code
def yL_wholes : MethodName := ⟨RL, "wholes", "(LLatinRectangles;LLatinRectanglesLaw$Grid;[I)Z"⟩
abbrev vwCl : List vw_C := [(RX0, TX0, 4), (RX1, TX1, 3), (RX2, TX2, 1), (RX3, TX3, 10), (RX4, TX4, 3), (RX5, TX5, 4), (RX6, TX6, 2), (RX7, TX7, 7), (RX8, TX8, 4), (RX9, TX9, 11), (RX10, TX10, 12), (RJ0, TJ0, 4), (RJ4, TJ4, 4)]
