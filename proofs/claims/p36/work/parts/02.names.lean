/-! ===== BEGIN words of one list among another's, by their places ===== -/
theorem goodIn_r {big : List Cond} (ws : List Cond) (ps : List Nat) (hp : ws = ps.filterMap (fun i => big[i]?)) (h : ws.all goodWord = true) : GoodIn big ws := by
  intro w hw
  have h1 := List.all_eq_true.mp h w hw
  rw [hp] at hw
  obtain ⟨i, -, hi⟩ := List.mem_filterMap.mp hw
  have hm : w ∈ big := by first | exact List.mem_of_getElem? hi | exact List.getElem?_mem hi
  exact ⟨hm, good_of_word h1⟩
theorem goodIn_app {big a b : List Cond} (ha : GoodIn big a) (hb : GoodIn big b) : GoodIn big (a ++ b) := fun w h => (List.mem_append.mp h).elim (ha w) (hb w)
theorem goodIn_ca {big a b : List Cond} {c : Cond} (ha : GoodIn big (c :: a)) (hb : GoodIn big b) : GoodIn big (c :: (a ++ b)) := fun w h => (List.mem_cons.mp h).elim (fun e => ha w (List.mem_cons.mpr (Or.inl e))) (fun h => (List.mem_append.mp h).elim (fun h => ha w (List.mem_cons.mpr (Or.inr h))) (hb w))
theorem goodIn_sub {big ws : List Cond} (hm : ∀ w ∈ ws, w ∈ big) (h : ws.all goodWord = true) : GoodIn big ws := fun w hw => ⟨hm w hw, good_of_word (List.all_eq_true.mp h w hw)⟩
/-! ===== END ===== -/
/-! ===== BEGIN printed: names, fields, word lists, decode rows ===== -/
def RX0 : String := "GatesOnBoard$Board"
def TX0 : u_T := fun k => match k with
  | 0 => ("GatesOnBoard$Board", "places", "I", false)
  | 1 => ("GatesOnBoard$Board", "edges", "I", false)
  | 2 => ("GatesOnBoard$Board", "lows", "[I", true)
  | 3 => ("GatesOnBoard$Board", "highs", "[I", true)
  | _ => ("GatesOnBoard$Board", "fars", "[[I", true)
def tyX0 : Nat → FieldType := fun k => match k with
  | 0 => .int
  | 1 => .int
  | 2 => .array .int
  | 3 => .array .int
  | _ => .array (.array .int)
abbrev wsX00 : List Cond := u_ws RX0 TX0 5
theorem nmX0 : ∀ a, a < 5 → ∀ b, b < 5 → a ≠ b → (TX0 a).2.1 ≠ (TX0 b).2.1 := by decide +kernel
theorem tyX0_ok : ∀ k, k < 5 → parseFieldDescriptor (TX0 k).2.2.1 = some (tyX0 k) := by decide +kernel
abbrev cX0_init : ByteArray := prog_2_method_1_code
def yX0_init : MethodName := ⟨RX0, "<init>", "()V"⟩
abbrev cX0_hasEdge : ByteArray := prog_2_method_3_code
def yX0_hasEdge : MethodName := ⟨RX0, "hasEdge", "(I)Z"⟩
abbrev cX0_lowOf : ByteArray := prog_2_method_4_code
def yX0_lowOf : MethodName := ⟨RX0, "lowOf", "(I)I"⟩
abbrev cX0_highOf : ByteArray := prog_2_method_5_code
def yX0_highOf : MethodName := ⟨RX0, "highOf", "(I)I"⟩
abbrev cX0_addEdge : ByteArray := prog_2_method_6_code
def yX0_addEdge : MethodName := ⟨RX0, "addEdge", "(II)V"⟩
abbrev cX0_copyFrom : ByteArray := prog_2_method_9_code
def yX0_copyFrom : MethodName := ⟨RX0, "copyFrom", "(LGatesOnBoard$Board;)V"⟩
def RX1 : String := "GatesOnBoard$Column"
def TX1 : u_T := fun k => match k with
  | 0 => ("GatesOnBoard$Column", "parts", "[J", true)
  | 1 => ("GatesOnBoard$Column", "states", "I", false)
  | _ => ("GatesOnBoard$Column", "power", "I", false)
def tyX1 : Nat → FieldType := fun k => match k with
  | 0 => .array .long
  | 1 => .int
  | _ => .int
abbrev wsX10 : List Cond := u_ws RX1 TX1 3
theorem nmX1 : ∀ a, a < 3 → ∀ b, b < 3 → a ≠ b → (TX1 a).2.1 ≠ (TX1 b).2.1 := by decide +kernel
theorem tyX1_ok : ∀ k, k < 3 → parseFieldDescriptor (TX1 k).2.2.1 = some (tyX1 k) := by decide +kernel
abbrev cX1_init : ByteArray := prog_3_method_1_code
def yX1_init : MethodName := ⟨RX1, "<init>", "()V"⟩
abbrev cX1_pass : ByteArray := prog_3_method_2_code
def yX1_pass : MethodName := ⟨RX1, "pass", "(LGatesOnBoard$GateList;II)V"⟩
abbrev cX1_part : ByteArray := prog_3_method_3_code
def yX1_part : MethodName := ⟨RX1, "part", "(II)J"⟩
abbrev cX1_apply : ByteArray := prog_3_method_4_code
def yX1_apply : MethodName := ⟨RX1, "apply", "(III)V"⟩
abbrev cX1_turn : ByteArray := prog_3_method_5_code
def yX1_turn : MethodName := ⟨RX1, "turn", "(II)V"⟩
abbrev cX1_mix : ByteArray := prog_3_method_6_code
def yX1_mix : MethodName := ⟨RX1, "mix", "(II)V"⟩
abbrev cX1_exchange : ByteArray := prog_3_method_7_code
def yX1_exchange : MethodName := ⟨RX1, "exchange", "(II)V"⟩
abbrev cX1_normalise : ByteArray := prog_3_method_8_code
def yX1_normalise : MethodName := ⟨RX1, "normalise", "()V"⟩
abbrev cX1_isByRoot : ByteArray := prog_3_method_9_code
def yX1_isByRoot : MethodName := ⟨RX1, "isByRoot", "()Z"⟩
abbrev cX1_divideByRoot : ByteArray := prog_3_method_10_code
def yX1_divideByRoot : MethodName := ⟨RX1, "divideByRoot", "()V"⟩
abbrev cX1_countNotZero : ByteArray := prog_3_method_11_code
def yX1_countNotZero : MethodName := ⟨RX1, "countNotZero", "()I"⟩
abbrev cX1_isTurned : ByteArray := prog_3_method_12_code
def yX1_isTurned : MethodName := ⟨RX1, "isTurned", "(LGatesOnBoard$Column;I)Z"⟩
abbrev cX1_isExchanged : ByteArray := prog_3_method_13_code
def yX1_isExchanged : MethodName := ⟨RX1, "isExchanged", "(LGatesOnBoard$Column;LGatesOnBoard$Layout;)Z"⟩
def RX2 : String := "GatesOnBoard$Course"
def TX2 : u_T := fun k => match k with
  | 0 => ("GatesOnBoard$Course", "gates", "LGatesOnBoard$GateList;", true)
  | 1 => ("GatesOnBoard$Course", "board", "LGatesOnBoard$Board;", true)
  | 2 => ("GatesOnBoard$Course", "layout", "LGatesOnBoard$Layout;", true)
  | 3 => ("GatesOnBoard$Course", "ahead", "[I", true)
  | _ => ("GatesOnBoard$Course", "done", "I", false)
def tyX2 : Nat → FieldType := fun k => match k with
  | 0 => .object "GatesOnBoard$GateList"
  | 1 => .object "GatesOnBoard$Board"
  | 2 => .object "GatesOnBoard$Layout"
  | 3 => .array .int
  | _ => .int
abbrev wsX20 : List Cond := u_ws RX2 TX2 5
theorem nmX2 : ∀ a, a < 5 → ∀ b, b < 5 → a ≠ b → (TX2 a).2.1 ≠ (TX2 b).2.1 := by decide +kernel
theorem tyX2_ok : ∀ k, k < 5 → parseFieldDescriptor (TX2 k).2.2.1 = some (tyX2 k) := by decide +kernel
abbrev cX2_init : ByteArray := prog_4_method_1_code
def yX2_init : MethodName := ⟨RX2, "<init>", "()V"⟩
def RX3 : String := "GatesOnBoard$Finder"
def TX3 : u_T := fun k => match k with
  | 0 => ("GatesOnBoard$Finder", "course", "LGatesOnBoard$Course;", true)
  | _ => ("GatesOnBoard$Finder", "failures", "[J", true)
def tyX3 : Nat → FieldType := fun k => match k with
  | 0 => .object "GatesOnBoard$Course"
  | _ => .array .long
abbrev wsX30 : List Cond := u_ws RX3 TX3 2
theorem nmX3 : ∀ a, a < 2 → ∀ b, b < 2 → a ≠ b → (TX3 a).2.1 ≠ (TX3 b).2.1 := by decide +kernel
theorem tyX3_ok : ∀ k, k < 2 → parseFieldDescriptor (TX3 k).2.2.1 = some (tyX3 k) := by decide +kernel
abbrev cX3_init : ByteArray := prog_5_method_1_code
def yX3_init : MethodName := ⟨RX3, "<init>", "()V"⟩
def RX4 : String := "GatesOnBoard$GateList"
def TX4 : u_T := fun k => match k with
  | 0 => ("GatesOnBoard$GateList", "kinds", "[I", true)
  | 1 => ("GatesOnBoard$GateList", "firsts", "[I", true)
  | 2 => ("GatesOnBoard$GateList", "seconds", "[I", true)
  | 3 => ("GatesOnBoard$GateList", "masks", "[I", true)
  | 4 => ("GatesOnBoard$GateList", "begins", "[I", true)
  | 5 => ("GatesOnBoard$GateList", "lates", "[I", true)
  | _ => ("GatesOnBoard$GateList", "size", "I", false)
def tyX4 : Nat → FieldType := fun k => match k with
  | 0 => .array .int
  | 1 => .array .int
  | 2 => .array .int
  | 3 => .array .int
  | 4 => .array .int
  | 5 => .array .int
  | _ => .int
abbrev wsX40 : List Cond := u_ws RX4 TX4 7
theorem nmX4 : ∀ a, a < 7 → ∀ b, b < 7 → a ≠ b → (TX4 a).2.1 ≠ (TX4 b).2.1 := by decide +kernel
theorem tyX4_ok : ∀ k, k < 7 → parseFieldDescriptor (TX4 k).2.2.1 = some (tyX4 k) := by decide +kernel
abbrev cX4_init : ByteArray := prog_6_method_1_code
def yX4_init : MethodName := ⟨RX4, "<init>", "(I)V"⟩
abbrev cX4_has : ByteArray := prog_6_method_2_code
def yX4_has : MethodName := ⟨RX4, "has", "(I)Z"⟩
abbrev cX4_kindOf : ByteArray := prog_6_method_3_code
def yX4_kindOf : MethodName := ⟨RX4, "kindOf", "(I)I"⟩
abbrev cX4_firstOf : ByteArray := prog_6_method_4_code
def yX4_firstOf : MethodName := ⟨RX4, "firstOf", "(I)I"⟩
abbrev cX4_secondOf : ByteArray := prog_6_method_5_code
def yX4_secondOf : MethodName := ⟨RX4, "secondOf", "(I)I"⟩
abbrev cX4_partOf : ByteArray := prog_6_method_6_code
def yX4_partOf : MethodName := ⟨RX4, "partOf", "(II)I"⟩
abbrev cX4_isOfTwo : ByteArray := prog_6_method_7_code
def yX4_isOfTwo : MethodName := ⟨RX4, "isOfTwo", "(I)Z"⟩
abbrev cX4_linesOf : ByteArray := prog_6_method_8_code
def yX4_linesOf : MethodName := ⟨RX4, "linesOf", "(I)I"⟩
abbrev cX4_add : ByteArray := prog_6_method_9_code
def yX4_add : MethodName := ⟨RX4, "add", "(III)V"⟩
abbrev cX4_copyFrom : ByteArray := prog_6_method_10_code
def yX4_copyFrom : MethodName := ⟨RX4, "copyFrom", "(LGatesOnBoard$GateList;)V"⟩
abbrev cX4_countOfKind : ByteArray := prog_6_method_11_code
def yX4_countOfKind : MethodName := ⟨RX4, "countOfKind", "(I)I"⟩
abbrev cX4_countOnLine : ByteArray := prog_6_method_12_code
def yX4_countOnLine : MethodName := ⟨RX4, "countOnLine", "(I)I"⟩
abbrev cX4_turnsOn : ByteArray := prog_6_method_13_code
def yX4_turnsOn : MethodName := ⟨RX4, "turnsOn", "(I)I"⟩
abbrev cX4_isIdle : ByteArray := prog_6_method_14_code
def yX4_isIdle : MethodName := ⟨RX4, "isIdle", "(I)Z"⟩
abbrev cX4_mannerOf : ByteArray := prog_6_method_15_code
def yX4_mannerOf : MethodName := ⟨RX4, "mannerOf", "(II)I"⟩
abbrev cX4_commute : ByteArray := prog_6_method_16_code
def yX4_commute : MethodName := ⟨RX4, "commute", "(II)Z"⟩
abbrev cX4_commutingWith : ByteArray := prog_6_method_17_code
def yX4_commutingWith : MethodName := ⟨RX4, "commutingWith", "(I)I"⟩
abbrev cX4_waitsFor : ByteArray := prog_6_method_18_code
def yX4_waitsFor : MethodName := ⟨RX4, "waitsFor", "(IIZ)Z"⟩
abbrev cX4_fillAhead : ByteArray := prog_6_method_19_code
def yX4_fillAhead : MethodName := ⟨RX4, "fillAhead", "(Z[I)V"⟩
abbrev cX4_timeOf : ByteArray := prog_6_method_20_code
def yX4_timeOf : MethodName := ⟨RX4, "timeOf", "(I[I)I"⟩
abbrev cX4_reckon : ByteArray := prog_6_method_21_code
def yX4_reckon : MethodName := ⟨RX4, "reckon", "([IZ)I"⟩
abbrev cX4_depthOf : ByteArray := prog_6_method_22_code
def yX4_depthOf : MethodName := ⟨RX4, "depthOf", "(IZ)I"⟩
abbrev cX4_shortenAll : ByteArray := prog_6_method_24_code
def yX4_shortenAll : MethodName := ⟨RX4, "shortenAll", "()I"⟩
abbrev cX4_shorten : ByteArray := prog_6_method_25_code
def yX4_shorten : MethodName := ⟨RX4, "shorten", "()I"⟩
abbrev cX4_areAlike : ByteArray := prog_6_method_26_code
def yX4_areAlike : MethodName := ⟨RX4, "areAlike", "(II)Z"⟩
abbrev cX4_fallsBackTo : ByteArray := prog_6_method_27_code
def yX4_fallsBackTo : MethodName := ⟨RX4, "fallsBackTo", "(II)Z"⟩
abbrev cX4_join : ByteArray := prog_6_method_28_code
def yX4_join : MethodName := ⟨RX4, "join", "(II)I"⟩
abbrev cX4_drop : ByteArray := prog_6_method_29_code
def yX4_drop : MethodName := ⟨RX4, "drop", "(I)V"⟩
def RX5 : String := "GatesOnBoard$Layout"
def TX5 : u_T := fun k => match k with
  | 0 => ("GatesOnBoard$Layout", "placesOfLines", "[I", true)
  | _ => ("GatesOnBoard$Layout", "linesAtPlaces", "[I", true)
def tyX5 : Nat → FieldType := fun k => match k with
  | 0 => .array .int
  | _ => .array .int
abbrev wsX50 : List Cond := u_ws RX5 TX5 2
theorem nmX5 : ∀ a, a < 2 → ∀ b, b < 2 → a ≠ b → (TX5 a).2.1 ≠ (TX5 b).2.1 := by decide +kernel
theorem tyX5_ok : ∀ k, k < 2 → parseFieldDescriptor (TX5 k).2.2.1 = some (tyX5 k) := by decide +kernel
abbrev cX5_init : ByteArray := prog_7_method_1_code
def yX5_init : MethodName := ⟨RX5, "<init>", "()V"⟩
abbrev cX5_reset : ByteArray := prog_7_method_2_code
def yX5_reset : MethodName := ⟨RX5, "reset", "(I)V"⟩
abbrev cX5_read : ByteArray := prog_7_method_3_code
def yX5_read : MethodName := ⟨RX5, "read", "(II)V"⟩
abbrev cX5_copyFrom : ByteArray := prog_7_method_4_code
def yX5_copyFrom : MethodName := ⟨RX5, "copyFrom", "(LGatesOnBoard$Layout;)V"⟩
abbrev cX5_placeOf : ByteArray := prog_7_method_5_code
def yX5_placeOf : MethodName := ⟨RX5, "placeOf", "(I)I"⟩
abbrev cX5_put : ByteArray := prog_7_method_8_code
def yX5_put : MethodName := ⟨RX5, "put", "(II)V"⟩
def RX6 : String := "GatesOnBoard$Router"
def TX6 : u_T := fun k => match k with
  | 0 => ("GatesOnBoard$Router", "course", "LGatesOnBoard$Course;", true)
  | 1 => ("GatesOnBoard$Router", "steps", "LGatesOnBoard$GateList;", true)
  | 2 => ("GatesOnBoard$Router", "areSwaps", "[Z", true)
  | 3 => ("GatesOnBoard$Router", "wear", "[I", true)
  | _ => ("GatesOnBoard$Router", "swaps", "I", false)
def tyX6 : Nat → FieldType := fun k => match k with
  | 0 => .object "GatesOnBoard$Course"
  | 1 => .object "GatesOnBoard$GateList"
  | 2 => .array .boolean
  | 3 => .array .int
  | _ => .int
abbrev wsX60 : List Cond := u_ws RX6 TX6 5
theorem nmX6 : ∀ a, a < 5 → ∀ b, b < 5 → a ≠ b → (TX6 a).2.1 ≠ (TX6 b).2.1 := by decide +kernel
theorem tyX6_ok : ∀ k, k < 5 → parseFieldDescriptor (TX6 k).2.2.1 = some (tyX6 k) := by decide +kernel
abbrev cX6_init : ByteArray := prog_8_method_1_code
def yX6_init : MethodName := ⟨RX6, "<init>", "()V"⟩
def RX7 : String := "GatesOnBoard$Rows"
def TX7 : u_T := fun k => match k with
  | 0 => ("GatesOnBoard$Rows", "numbers", "[I", true)
  | _ => ("GatesOnBoard$Rows", "size", "I", false)
def tyX7 : Nat → FieldType := fun k => match k with
  | 0 => .array .int
  | _ => .int
abbrev wsX70 : List Cond := u_ws RX7 TX7 2
theorem nmX7 : ∀ a, a < 2 → ∀ b, b < 2 → a ≠ b → (TX7 a).2.1 ≠ (TX7 b).2.1 := by decide +kernel
theorem tyX7_ok : ∀ k, k < 2 → parseFieldDescriptor (TX7 k).2.2.1 = some (tyX7 k) := by decide +kernel
abbrev cX7_init : ByteArray := prog_9_method_1_code
def yX7_init : MethodName := ⟨RX7, "<init>", "()V"⟩
abbrev cX7_fill : ByteArray := prog_9_method_2_code
def yX7_fill : MethodName := ⟨RX7, "fill", "(II)V"⟩
abbrev cX7_numberOf : ByteArray := prog_9_method_3_code
def yX7_numberOf : MethodName := ⟨RX7, "numberOf", "(III)I"⟩
abbrev cX7_rowAt : ByteArray := prog_9_method_4_code
def yX7_rowAt : MethodName := ⟨RX7, "rowAt", "(I)I"⟩
def RX8 : String := "GatesOnBoard$State"
def TX8 : u_T := fun k => match k with
  | 0 => ("GatesOnBoard$State", "lineCount", "I", false)
  | 1 => ("GatesOnBoard$State", "gates", "LGatesOnBoard$GateList;", true)
  | 2 => ("GatesOnBoard$State", "board", "LGatesOnBoard$Board;", true)
  | 3 => ("GatesOnBoard$State", "layout", "LGatesOnBoard$Layout;", true)
  | _ => ("GatesOnBoard$State", "drawn", "I", false)
def tyX8 : Nat → FieldType := fun k => match k with
  | 0 => .int
  | 1 => .object "GatesOnBoard$GateList"
  | 2 => .object "GatesOnBoard$Board"
  | 3 => .object "GatesOnBoard$Layout"
  | _ => .int
abbrev wsX80 : List Cond := u_ws RX8 TX8 5
theorem nmX8 : ∀ a, a < 5 → ∀ b, b < 5 → a ≠ b → (TX8 a).2.1 ≠ (TX8 b).2.1 := by decide +kernel
theorem tyX8_ok : ∀ k, k < 5 → parseFieldDescriptor (TX8 k).2.2.1 = some (tyX8 k) := by decide +kernel
abbrev cX8_init : ByteArray := prog_10_method_1_code
def yX8_init : MethodName := ⟨RX8, "<init>", "()V"⟩
abbrev cX8_copyFrom : ByteArray := prog_10_method_2_code
def yX8_copyFrom : MethodName := ⟨RX8, "copyFrom", "(LGatesOnBoard$State;)V"⟩
def RX9 : String := "GatesOnBoard$Tape"
def TX9 : u_T := fun k => match k with
  | 0 => ("GatesOnBoard$Tape", "bytes", "[I", true)
  | _ => ("GatesOnBoard$Tape", "size", "I", false)
def tyX9 : Nat → FieldType := fun k => match k with
  | 0 => .array .int
  | _ => .int
abbrev wsX90 : List Cond := u_ws RX9 TX9 2
theorem nmX9 : ∀ a, a < 2 → ∀ b, b < 2 → a ≠ b → (TX9 a).2.1 ≠ (TX9 b).2.1 := by decide +kernel
theorem tyX9_ok : ∀ k, k < 2 → parseFieldDescriptor (TX9 k).2.2.1 = some (tyX9 k) := by decide +kernel
abbrev cX9_init : ByteArray := prog_11_method_1_code
def yX9_init : MethodName := ⟨RX9, "<init>", "()V"⟩
abbrev cX9_write : ByteArray := prog_11_method_2_code
def yX9_write : MethodName := ⟨RX9, "write", "(I)V"⟩
abbrev cX9_byteAt : ByteArray := prog_11_method_3_code
def yX9_byteAt : MethodName := ⟨RX9, "byteAt", "(I)I"⟩
abbrev cX9_fault : ByteArray := prog_11_method_4_code
def yX9_fault : MethodName := ⟨RX9, "fault", "(II)I"⟩
abbrev cX9_digitAt : ByteArray := prog_11_method_5_code
def yX9_digitAt : MethodName := ⟨RX9, "digitAt", "(III)I"⟩
abbrev cX9_readGates : ByteArray := prog_11_method_6_code
def yX9_readGates : MethodName := ⟨RX9, "readGates", "(ILGatesOnBoard$GateList;)I"⟩
abbrev cX9_readGate : ByteArray := prog_11_method_7_code
def yX9_readGate : MethodName := ⟨RX9, "readGate", "(IILGatesOnBoard$GateList;)I"⟩
def RX10 : String := "GatesOnBoard"
def TX10 : u_T := fun k => match k with
  | 0 => ("GatesOnBoard", "now", "LGatesOnBoard$State;", true)
  | 1 => ("GatesOnBoard", "kept", "LGatesOnBoard$State;", true)
  | 2 => ("GatesOnBoard", "isKept", "Z", false)
  | 3 => ("GatesOnBoard", "tape", "LGatesOnBoard$Tape;", true)
  | 4 => ("GatesOnBoard", "times", "[I", true)
  | 5 => ("GatesOnBoard", "spareGates", "LGatesOnBoard$GateList;", true)
  | 6 => ("GatesOnBoard", "spareBoard", "LGatesOnBoard$Board;", true)
  | 7 => ("GatesOnBoard", "trial", "LGatesOnBoard$Layout;", true)
  | 8 => ("GatesOnBoard", "rows", "LGatesOnBoard$Rows;", true)
  | 9 => ("GatesOnBoard", "column", "LGatesOnBoard$Column;", true)
  | 10 => ("GatesOnBoard", "keptColumn", "LGatesOnBoard$Column;", true)
  | 11 => ("GatesOnBoard", "aheadBits", "[I", true)
  | 12 => ("GatesOnBoard", "router", "LGatesOnBoard$Router;", true)
  | _ => ("GatesOnBoard", "finder", "LGatesOnBoard$Finder;", true)
def tyX10 : Nat → FieldType := fun k => match k with
  | 0 => .object "GatesOnBoard$State"
  | 1 => .object "GatesOnBoard$State"
  | 2 => .boolean
  | 3 => .object "GatesOnBoard$Tape"
  | 4 => .array .int
  | 5 => .object "GatesOnBoard$GateList"
  | 6 => .object "GatesOnBoard$Board"
  | 7 => .object "GatesOnBoard$Layout"
  | 8 => .object "GatesOnBoard$Rows"
  | 9 => .object "GatesOnBoard$Column"
  | 10 => .object "GatesOnBoard$Column"
  | 11 => .array .int
  | 12 => .object "GatesOnBoard$Router"
  | _ => .object "GatesOnBoard$Finder"
abbrev wsX100 : List Cond := u_ws RX10 TX10 14
theorem nmX10 : ∀ a, a < 14 → ∀ b, b < 14 → a ≠ b → (TX10 a).2.1 ≠ (TX10 b).2.1 := by decide +kernel
theorem tyX10_ok : ∀ k, k < 14 → parseFieldDescriptor (TX10 k).2.2.1 = some (tyX10 k) := by decide +kernel
abbrev cX10_init : ByteArray := prog_1_method_1_code
def yX10_init : MethodName := ⟨RX10, "<init>", "()V"⟩
abbrev cX10_feed : ByteArray := prog_1_method_2_code
def yX10_feed : MethodName := ⟨RX10, "feed", "(IIIII)I"⟩
abbrev cX10_lines : ByteArray := prog_1_method_3_code
def yX10_lines : MethodName := ⟨RX10, "lines", "(I)Z"⟩
abbrev cX10_circuit : ByteArray := prog_1_method_4_code
def yX10_circuit : MethodName := ⟨RX10, "circuit", "(I)I"⟩
abbrev cX10_gate : ByteArray := prog_1_method_7_code
def yX10_gate : MethodName := ⟨RX10, "gate", "(III)I"⟩
abbrev cX10_isGate : ByteArray := prog_1_method_8_code
def yX10_isGate : MethodName := ⟨RX10, "isGate", "(III)Z"⟩
abbrev cX10_isLine : ByteArray := prog_1_method_9_code
def yX10_isLine : MethodName := ⟨RX10, "isLine", "(I)Z"⟩
abbrev cX10_gateIs : ByteArray := prog_1_method_13_code
def yX10_gateIs : MethodName := ⟨RX10, "gateIs", "(II)I"⟩
abbrev cX10_ahead : ByteArray := prog_1_method_14_code
def yX10_ahead : MethodName := ⟨RX10, "ahead", "(II)I"⟩
abbrev cX10_circuitIs : ByteArray := prog_1_method_15_code
def yX10_circuitIs : MethodName := ⟨RX10, "circuitIs", "(I)I"⟩
abbrev cX10_circuitHas : ByteArray := prog_1_method_16_code
def yX10_circuitHas : MethodName := ⟨RX10, "circuitHas", "(I)I"⟩
abbrev cX10_shorter : ByteArray := prog_1_method_17_code
def yX10_shorter : MethodName := ⟨RX10, "shorter", "()I"⟩
abbrev cX10_shortest : ByteArray := prog_1_method_18_code
def yX10_shortest : MethodName := ⟨RX10, "shortest", "()I"⟩
abbrev cX10_isState : ByteArray := prog_1_method_19_code
def yX10_isState : MethodName := ⟨RX10, "isState", "(I)Z"⟩
abbrev cX10_amplitude : ByteArray := prog_1_method_20_code
def yX10_amplitude : MethodName := ⟨RX10, "amplitude", "(III)J"⟩
abbrev cX10_chance : ByteArray := prog_1_method_21_code
def yX10_chance : MethodName := ⟨RX10, "chance", "(III)J"⟩
abbrev cX10_spread : ByteArray := prog_1_method_22_code
def yX10_spread : MethodName := ⟨RX10, "spread", "(I)I"⟩
abbrev cX10_same : ByteArray := prog_1_method_23_code
def yX10_same : MethodName := ⟨RX10, "same", "(I)I"⟩
abbrev cX10_passBoth : ByteArray := prog_1_method_24_code
def yX10_passBoth : MethodName := ⟨RX10, "passBoth", "(I)V"⟩
abbrev cX10_turnsAlike : ByteArray := prog_1_method_25_code
def yX10_turnsAlike : MethodName := ⟨RX10, "turnsAlike", "()I"⟩
abbrev cX10_ordersAlike : ByteArray := prog_1_method_26_code
def yX10_ordersAlike : MethodName := ⟨RX10, "ordersAlike", "()I"⟩
abbrev cX10_lowestOf : ByteArray := prog_1_method_27_code
def yX10_lowestOf : MethodName := ⟨RX10, "lowestOf", "(I)I"⟩
abbrev cX10_keep : ByteArray := prog_1_method_48_code
def yX10_keep : MethodName := ⟨RX10, "keep", "()I"⟩
abbrev cX10_undo : ByteArray := prog_1_method_49_code
def yX10_undo : MethodName := ⟨RX10, "undo", "()Z"⟩
abbrev cX10_count : ByteArray := prog_1_method_50_code
def yX10_count : MethodName := ⟨RX10, "count", "(I)I"⟩
abbrev cX10_valueAt : ByteArray := prog_1_method_51_code
def yX10_valueAt : MethodName := ⟨RX10, "valueAt", "([II)I"⟩
abbrev cX10_putAt : ByteArray := prog_1_method_52_code
def yX10_putAt : MethodName := ⟨RX10, "putAt", "([III)V"⟩
def RX11 : String := "GatesOnBoardModel"
def TX11 : u_T := fun k => match k with
  | _ => ("", "", "", false)
def tyX11 : Nat → FieldType := fun k => match k with
  | _ => .int
abbrev wsX110 : List Cond := u_ws RX11 TX11 0
theorem nmX11 : ∀ a, a < 0 → ∀ b, b < 0 → a ≠ b → (TX11 a).2.1 ≠ (TX11 b).2.1 := by decide +kernel
theorem tyX11_ok : ∀ k, k < 0 → parseFieldDescriptor (TX11 k).2.2.1 = some (tyX11 k) := by decide +kernel
def RJx145de : String := "java/io/Serializable"
def RJx9f9b0 : String := "java/lang/CharSequence"
def RJ11 : String := "java/lang/Character"
abbrev cJ11_isValidCodePoint_9a6ad : ByteArray := prog_14_method_11_code
def yJ11_isValidCodePoint_9a6ad : MethodName := ⟨RJ11, "isValidCodePoint", "(I)Z"⟩
abbrev cJ11_highSurrogate_5068e : ByteArray := prog_14_method_28_code
def yJ11_highSurrogate_5068e : MethodName := ⟨RJ11, "highSurrogate", "(I)C"⟩
abbrev cJ11_lowSurrogate_5068e : ByteArray := prog_14_method_29_code
def yJ11_lowSurrogate_5068e : MethodName := ⟨RJ11, "lowSurrogate", "(I)C"⟩
def RJx8e188 : String := "java/lang/Cloneable"
def RJxb160c : String := "java/lang/Comparable"
def RJ9 : String := "java/lang/Math"
abbrev cJ9_max_7cf53 : ByteArray := prog_16_method_65_code
def yJ9_max_7cf53 : MethodName := ⟨RJ9, "max", "(II)I"⟩
abbrev cJ9_min_7cf53 : ByteArray := prog_16_method_69_code
def yJ9_min_7cf53 : MethodName := ⟨RJ9, "min", "(II)I"⟩
def RJ0 : String := "java/lang/String"
abbrev cJ0_length_8abf5 : ByteArray := prog_17_method_54_code
def yJ0_length_8abf5 : MethodName := ⟨RJ0, "length", "()I"⟩
abbrev cJ0_indexOf_0f7a4 : ByteArray := prog_17_method_79_code
def yJ0_indexOf_0f7a4 : MethodName := ⟨RJ0, "indexOf", "(I)I"⟩
abbrev cJ0_indexOf_7cf53 : ByteArray := prog_17_method_80_code
def yJ0_indexOf_7cf53 : MethodName := ⟨RJ0, "indexOf", "(II)I"⟩
abbrev cJ0_coder_7d493 : ByteArray := prog_17_method_152_code
def yJ0_coder_7d493 : MethodName := ⟨RJ0, "coder", "()B"⟩
abbrev cJ0_isLatin1_aae02 : ByteArray := prog_17_method_154_code
def yJ0_isLatin1_aae02 : MethodName := ⟨RJ0, "isLatin1", "()Z"⟩
abbrev cJ0_checkBoundsBeginEnd_23922 : ByteArray := prog_17_method_158_code
def yJ0_checkBoundsBeginEnd_23922 : MethodName := ⟨RJ0, "checkBoundsBeginEnd", "(III)V"⟩
def RJ1 : String := "java/lang/StringLatin1"
abbrev cJ1_canEncode_9a6ad : ByteArray := prog_18_method_4_code
def yJ1_canEncode_9a6ad : MethodName := ⟨RJ1, "canEncode", "(I)Z"⟩
abbrev cJ1_indexOf_4cfef : ByteArray := prog_18_method_22_code
def yJ1_indexOf_4cfef : MethodName := ⟨RJ1, "indexOf", "([BIII)I"⟩
abbrev cJ1_indexOfChar_4cfef : ByteArray := prog_18_method_23_code
def yJ1_indexOfChar_4cfef : MethodName := ⟨RJ1, "indexOfChar", "([BIII)I"⟩
def RJ2 : String := "java/lang/StringUTF16"
abbrev cJ2_getChar_3b067 : ByteArray := prog_19_method_5_code
def yJ2_getChar_3b067 : MethodName := ⟨RJ2, "getChar", "([BI)C"⟩
abbrev cJ2_length_9d52b : ByteArray := prog_19_method_6_code
def yJ2_length_9d52b : MethodName := ⟨RJ2, "length", "([B)I"⟩
abbrev cJ2_indexOf_4cfef : ByteArray := prog_19_method_40_code
def yJ2_indexOf_4cfef : MethodName := ⟨RJ2, "indexOf", "([BIII)I"⟩
abbrev cJ2_indexOfChar_4cfef : ByteArray := prog_19_method_47_code
def yJ2_indexOfChar_4cfef : MethodName := ⟨RJ2, "indexOfChar", "([BIII)I"⟩
abbrev cJ2_indexOfCharUnsafe_4cfef : ByteArray := prog_19_method_48_code
def yJ2_indexOfCharUnsafe_4cfef : MethodName := ⟨RJ2, "indexOfCharUnsafe", "([BIII)I"⟩
abbrev cJ2_indexOfSupplementary_4cfef : ByteArray := prog_19_method_49_code
def yJ2_indexOfSupplementary_4cfef : MethodName := ⟨RJ2, "indexOfSupplementary", "([BIII)I"⟩
abbrev cJ2_checkBoundsBeginEnd_d044e : ByteArray := prog_19_method_93_code
def yJ2_checkBoundsBeginEnd_d044e : MethodName := ⟨RJ2, "checkBoundsBeginEnd", "(II[B)V"⟩
def RJxfd54e : String := "java/lang/constant/Constable"
def RJx3cf43 : String := "java/lang/constant/ConstantDesc"
def RJ7 : String := "java/util/Arrays"
abbrev cJ7_fill_d0a16 : ByteArray := prog_20_method_101_code
def yJ7_fill_d0a16 : MethodName := ⟨RJ7, "fill", "([JJ)V"⟩
abbrev cJ7_fill_53178 : ByteArray := prog_20_method_103_code
def yJ7_fill_53178 : MethodName := ⟨RJ7, "fill", "([II)V"⟩
def RJ3 : String := "jdk/internal/util/Preconditions"
abbrev cJ3_checkFromToIndex_8c36e : ByteArray := prog_21_method_12_code
def yJ3_checkFromToIndex_8c36e : MethodName := ⟨RJ3, "checkFromToIndex", "(IIILjava/util/function/BiFunction;)I"⟩
def RL : String := "GatesOnBoardLaw"
abbrev cL_tell : ByteArray := method_2_code
def yL_tell : MethodName := ⟨RL, "tell", "(LGatesOnBoard;[II)V"⟩
abbrev cL_next : ByteArray := method_3_code
def yL_next : MethodName := ⟨RL, "next", "([I)I"⟩
abbrev cL_drawn : ByteArray := method_4_code
def yL_drawn : MethodName := ⟨RL, "drawn", "([III)[I"⟩
abbrev cL_circuit : ByteArray := method_5_code
def yL_circuit : MethodName := ⟨RL, "circuit", "(LGatesOnBoard;[IIII)[I"⟩
abbrev cL_all : ByteArray := method_7_code
def yL_all : MethodName := ⟨RL, "all", "(LGatesOnBoard;I)[J"⟩
abbrev cL_same : ByteArray := method_8_code
def yL_same : MethodName := ⟨RL, "same", "([J[J)Z"⟩
abbrev cL_chances : ByteArray := method_9_code
def yL_chances : MethodName := ⟨RL, "chances", "(LGatesOnBoard;I)Z"⟩
abbrev cL_ahead : ByteArray := method_10_code
def yL_ahead : MethodName := ⟨RL, "ahead", "(LGatesOnBoard;[II)Z"⟩
abbrev cL_shorter : ByteArray := method_11_code
def yL_shorter : MethodName := ⟨RL, "shorter", "(LGatesOnBoard;[II)Z"⟩
abbrev cL_law : ByteArray := code
def yL_law : MethodName := ⟨RL, "law", "([I)Z"⟩
abbrev vwCl : List vw_C := [(RX0, TX0, 5), (RX1, TX1, 3), (RX2, TX2, 5), (RX3, TX3, 2), (RX4, TX4, 7), (RX5, TX5, 2), (RX6, TX6, 5), (RX7, TX7, 2), (RX8, TX8, 5), (RX9, TX9, 2), (RX10, TX10, 14)]
/-! ===== END printed: names ===== -/
