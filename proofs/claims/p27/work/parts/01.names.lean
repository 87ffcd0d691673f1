-- ===== PART A: goes FIRST, ahead of the names: the tables' words, and 'selects' of the private methods out of them =====
/-- a private method of a class that the tables say can be made, by its rows of tables_1 -/
def lw_okq (q : MethodName × Nat) : Prop := (q.1.cls ≠ "java/lang/invoke/MethodHandle" ∧ q.1.cls ≠ "java/lang/invoke/VarHandle") ∧ Cond.instantiable q.1.cls q.2 ∈ tables_1 ∧ Cond.privateMethod q.1 ∈ tables_1 ∧ Cond.instanceMethod q.1 ∈ tables_1
theorem lw_p0 : lw_okq (⟨"TabLines", "layOut", "(II)V"⟩, 7) := ⟨⟨by decide +kernel, by decide +kernel⟩, List.mem_of_getElem? (i := 11) (by decide +kernel), List.mem_of_getElem? (i := 235) (by decide +kernel), List.mem_of_getElem? (i := 236) (by decide +kernel)⟩
theorem lw_p1 : lw_okq (⟨"TabLines", "styleOf", "(I)LTabLines$Style;"⟩, 7) := ⟨⟨by decide +kernel, by decide +kernel⟩, List.mem_of_getElem? (i := 11) (by decide +kernel), List.mem_of_getElem? (i := 239) (by decide +kernel), List.mem_of_getElem? (i := 240) (by decide +kernel)⟩
theorem lw_p2 : lw_okq (⟨"TabLines$Words", "startWord", "(I)V"⟩, 6) := ⟨⟨by decide +kernel, by decide +kernel⟩, List.mem_of_getElem? (i := 115) (by decide +kernel), List.mem_of_getElem? (i := 255) (by decide +kernel), List.mem_of_getElem? (i := 256) (by decide +kernel)⟩
theorem lw_p3 : lw_okq (⟨"TabLines$Words", "growWord", "(I)V"⟩, 6) := ⟨⟨by decide +kernel, by decide +kernel⟩, List.mem_of_getElem? (i := 115) (by decide +kernel), List.mem_of_getElem? (i := 259) (by decide +kernel), List.mem_of_getElem? (i := 260) (by decide +kernel)⟩
theorem lw_p4 : lw_okq (⟨"TabLines$Words", "endField", "()V"⟩, 6) := ⟨⟨by decide +kernel, by decide +kernel⟩, List.mem_of_getElem? (i := 115) (by decide +kernel), List.mem_of_getElem? (i := 266) (by decide +kernel), List.mem_of_getElem? (i := 267) (by decide +kernel)⟩
theorem lw_p5 : lw_okq (⟨"TabLines$Layout", "startField", "(III)V"⟩, 12) := ⟨⟨by decide +kernel, by decide +kernel⟩, List.mem_of_getElem? (i := 109) (by decide +kernel), List.mem_of_getElem? (i := 274) (by decide +kernel), List.mem_of_getElem? (i := 275) (by decide +kernel)⟩
theorem lw_p6 : lw_okq (⟨"TabLines$Layout", "flow", "(II)V"⟩, 12) := ⟨⟨by decide +kernel, by decide +kernel⟩, List.mem_of_getElem? (i := 109) (by decide +kernel), List.mem_of_getElem? (i := 286) (by decide +kernel), List.mem_of_getElem? (i := 287) (by decide +kernel)⟩
theorem lw_p7 : lw_okq (⟨"TabLines$Layout", "startLine", "()V"⟩, 12) := ⟨⟨by decide +kernel, by decide +kernel⟩, List.mem_of_getElem? (i := 109) (by decide +kernel), List.mem_of_getElem? (i := 294) (by decide +kernel), List.mem_of_getElem? (i := 295) (by decide +kernel)⟩
theorem lw_p8 : lw_okq (⟨"TabLines$Layout", "place", "(I)V"⟩, 12) := ⟨⟨by decide +kernel, by decide +kernel⟩, List.mem_of_getElem? (i := 109) (by decide +kernel), List.mem_of_getElem? (i := 298) (by decide +kernel), List.mem_of_getElem? (i := 299) (by decide +kernel)⟩
theorem lw_p9 : lw_okq (⟨"TabLines$Layout", "noteFilled", "()V"⟩, 12) := ⟨⟨by decide +kernel, by decide +kernel⟩, List.mem_of_getElem? (i := 109) (by decide +kernel), List.mem_of_getElem? (i := 316) (by decide +kernel), List.mem_of_getElem? (i := 317) (by decide +kernel)⟩
theorem lw_p10 : lw_okq (⟨"TabLines$Layout", "fillBehindTab", "(LTabLines$Style;)V"⟩, 12) := ⟨⟨by decide +kernel, by decide +kernel⟩, List.mem_of_getElem? (i := 109) (by decide +kernel), List.mem_of_getElem? (i := 320) (by decide +kernel), List.mem_of_getElem? (i := 321) (by decide +kernel)⟩
theorem lw_p11 : lw_okq (⟨"TabLines$Layout", "measureRun", "(III)V"⟩, 12) := ⟨⟨by decide +kernel, by decide +kernel⟩, List.mem_of_getElem? (i := 109) (by decide +kernel), List.mem_of_getElem? (i := 344) (by decide +kernel), List.mem_of_getElem? (i := 345) (by decide +kernel)⟩
theorem lw_p12 : lw_okq (⟨"TabLines$Layout", "startRun", "(III)V"⟩, 12) := ⟨⟨by decide +kernel, by decide +kernel⟩, List.mem_of_getElem? (i := 109) (by decide +kernel), List.mem_of_getElem? (i := 356) (by decide +kernel), List.mem_of_getElem? (i := 357) (by decide +kernel)⟩
theorem lw_p13 : lw_okq (⟨"TabLines$Layout", "runAhead", "(I)I"⟩, 12) := ⟨⟨by decide +kernel, by decide +kernel⟩, List.mem_of_getElem? (i := 109) (by decide +kernel), List.mem_of_getElem? (i := 360) (by decide +kernel), List.mem_of_getElem? (i := 361) (by decide +kernel)⟩
theorem lw_p14 : lw_okq (⟨"TabLines", "isParagraph", "(I)Z"⟩, 7) := ⟨⟨by decide +kernel, by decide +kernel⟩, List.mem_of_getElem? (i := 11) (by decide +kernel), List.mem_of_getElem? (i := 372) (by decide +kernel), List.mem_of_getElem? (i := 373) (by decide +kernel)⟩
theorem lw_p15 : lw_okq (⟨"TabLines", "isStyle", "(I)Z"⟩, 7) := ⟨⟨by decide +kernel, by decide +kernel⟩, List.mem_of_getElem? (i := 11) (by decide +kernel), List.mem_of_getElem? (i := 440) (by decide +kernel), List.mem_of_getElem? (i := 441) (by decide +kernel)⟩
def lw_privs_1 : List (MethodName × Nat) := [(⟨"TabLines", "layOut", "(II)V"⟩, 7), (⟨"TabLines", "styleOf", "(I)LTabLines$Style;"⟩, 7), (⟨"TabLines$Words", "startWord", "(I)V"⟩, 6), (⟨"TabLines$Words", "growWord", "(I)V"⟩, 6), (⟨"TabLines$Words", "endField", "()V"⟩, 6), (⟨"TabLines$Layout", "startField", "(III)V"⟩, 12), (⟨"TabLines$Layout", "flow", "(II)V"⟩, 12), (⟨"TabLines$Layout", "startLine", "()V"⟩, 12), (⟨"TabLines$Layout", "place", "(I)V"⟩, 12), (⟨"TabLines$Layout", "noteFilled", "()V"⟩, 12), (⟨"TabLines$Layout", "fillBehindTab", "(LTabLines$Style;)V"⟩, 12), (⟨"TabLines$Layout", "measureRun", "(III)V"⟩, 12), (⟨"TabLines$Layout", "startRun", "(III)V"⟩, 12), (⟨"TabLines$Layout", "runAhead", "(I)I"⟩, 12), (⟨"TabLines", "isParagraph", "(I)Z"⟩, 7), (⟨"TabLines", "isStyle", "(I)Z"⟩, 7)]
theorem lw_r1 : ∀ q ∈ lw_privs_1, lw_okq q := List.forall_mem_cons.mpr ⟨lw_p0, List.forall_mem_cons.mpr ⟨lw_p1, List.forall_mem_cons.mpr ⟨lw_p2, List.forall_mem_cons.mpr ⟨lw_p3, List.forall_mem_cons.mpr ⟨lw_p4, List.forall_mem_cons.mpr ⟨lw_p5, List.forall_mem_cons.mpr ⟨lw_p6, List.forall_mem_cons.mpr ⟨lw_p7, List.forall_mem_cons.mpr ⟨lw_p8, List.forall_mem_cons.mpr ⟨lw_p9, List.forall_mem_cons.mpr ⟨lw_p10, List.forall_mem_cons.mpr ⟨lw_p11, List.forall_mem_cons.mpr ⟨lw_p12, List.forall_mem_cons.mpr ⟨lw_p13, List.forall_mem_cons.mpr ⟨lw_p14, List.forall_mem_cons.mpr ⟨lw_p15, fun _ h => absurd h List.not_mem_nil⟩⟩⟩⟩⟩⟩⟩⟩⟩⟩⟩⟩⟩⟩⟩⟩
theorem lw_p16 : lw_okq (⟨"TabLines", "saveState", "()V"⟩, 7) := ⟨⟨by decide +kernel, by decide +kernel⟩, List.mem_of_getElem? (i := 11) (by decide +kernel), List.mem_of_getElem? (i := 477) (by decide +kernel), List.mem_of_getElem? (i := 478) (by decide +kernel)⟩
def lw_privs_2 : List (MethodName × Nat) := [(⟨"TabLines", "saveState", "()V"⟩, 7)]
theorem lw_r2 : ∀ q ∈ lw_privs_2, lw_okq q := List.forall_mem_cons.mpr ⟨lw_p16, fun _ h => absurd h List.not_mem_nil⟩
def lw_privs : List (MethodName × Nat) := lw_privs_1 ++ (lw_privs_2)
def lw_tbl : List Cond := k2_sels lw_privs ++ tables_1
theorem lw_privs_ok : ∀ q ∈ lw_privs, lw_okq q := by
  show ∀ q ∈ lw_privs_1 ++ (lw_privs_2), lw_okq q
  exact List.forall_mem_append.mpr ⟨lw_r1, lw_r2⟩
def RX0 : String := "TabLines$Layout"
def TX0 : u_T := fun k => match k with
  | 0 => ("TabLines$Layout", "words", "LTabLines$Words;", true)
  | 1 => ("TabLines$Layout", "pieces", "LTabLines$Pieces;", true)
  | 2 => ("TabLines$Layout", "fields", "[[I", true)
  | 3 => ("TabLines$Layout", "columns", "I", false)
  | 4 => ("TabLines$Layout", "distance", "I", false)
  | 5 => ("TabLines$Layout", "hanging", "I", false)
  | 6 => ("TabLines$Layout", "row", "I", false)
  | 7 => ("TabLines$Layout", "c", "I", false)
  | 8 => ("TabLines$Layout", "current", "I", false)
  | 9 => ("TabLines$Layout", "runEnd", "I", false)
  | 10 => ("TabLines$Layout", "runLength", "I", false)
  | _ => ("TabLines$Layout", "runPoint", "I", false)
def tyX0 : Nat → FieldType := fun k => match k with
  | 0 => .object "TabLines$Words"
  | 1 => .object "TabLines$Pieces"
  | 2 => .array (.array .int)
  | 3 => .int
  | 4 => .int
  | 5 => .int
  | 6 => .int
  | 7 => .int
  | 8 => .int
  | 9 => .int
  | 10 => .int
  | _ => .int
theorem nmX0 : ∀ a, a < 12 → ∀ b, b < 12 → a ≠ b → (TX0 a).2.1 ≠ (TX0 b).2.1 := by decide +kernel
theorem tyX0_ok : ∀ k, k < 12 → parseFieldDescriptor (TX0 k).2.2.1 = some (tyX0 k) := by decide +kernel
abbrev cX0_init : ByteArray := prog_2_method_1_code
def yX0_init : MethodName := ⟨RX0, "<init>", "()V"⟩
abbrev cX0_lineCount : ByteArray := prog_2_method_2_code
def yX0_lineCount : MethodName := ⟨RX0, "lineCount", "()I"⟩
abbrev cX0_fill : ByteArray := prog_2_method_3_code
def yX0_fill : MethodName := ⟨RX0, "fill", "(LTabLines$Paragraph;LTabLines$Style;II)V"⟩
abbrev cX0_fillBehindTab : ByteArray := prog_2_method_4_code
def yX0_fillBehindTab : MethodName := ⟨RX0, "fillBehindTab", "(LTabLines$Style;)V"⟩
abbrev cX0_measureRun : ByteArray := prog_2_method_5_code
def yX0_measureRun : MethodName := ⟨RX0, "measureRun", "(III)V"⟩
abbrev cX0_startRun : ByteArray := prog_2_method_6_code
def yX0_startRun : MethodName := ⟨RX0, "startRun", "(III)V"⟩
abbrev cX0_runAhead : ByteArray := prog_2_method_7_code
def yX0_runAhead : MethodName := ⟨RX0, "runAhead", "(I)I"⟩
abbrev cX0_startField : ByteArray := prog_2_method_8_code
def yX0_startField : MethodName := ⟨RX0, "startField", "(III)V"⟩
abbrev cX0_startLine : ByteArray := prog_2_method_9_code
def yX0_startLine : MethodName := ⟨RX0, "startLine", "()V"⟩
abbrev cX0_flow : ByteArray := prog_2_method_10_code
def yX0_flow : MethodName := ⟨RX0, "flow", "(II)V"⟩
abbrev cX0_place : ByteArray := prog_2_method_11_code
def yX0_place : MethodName := ⟨RX0, "place", "(I)V"⟩
abbrev cX0_noteFilled : ByteArray := prog_2_method_12_code
def yX0_noteFilled : MethodName := ⟨RX0, "noteFilled", "()V"⟩
abbrev cX0_barColumns : ByteArray := prog_2_method_13_code
def yX0_barColumns : MethodName := ⟨RX0, "barColumns", "(LTabLines$Style;)I"⟩
def RX1 : String := "TabLines$Paragraph"
def TX1 : u_T := fun k => match k with
  | 0 => ("TabLines$Paragraph", "style", "I", false)
  | 1 => ("TabLines$Paragraph", "length", "I", false)
  | _ => ("TabLines$Paragraph", "characters", "[I", true)
def tyX1 : Nat → FieldType := fun k => match k with
  | 0 => .int
  | 1 => .int
  | _ => .array .int
theorem nmX1 : ∀ a, a < 3 → ∀ b, b < 3 → a ≠ b → (TX1 a).2.1 ≠ (TX1 b).2.1 := by decide +kernel
theorem tyX1_ok : ∀ k, k < 3 → parseFieldDescriptor (TX1 k).2.2.1 = some (tyX1 k) := by decide +kernel
abbrev cX1_init : ByteArray := prog_3_method_1_code
def yX1_init : MethodName := ⟨RX1, "<init>", "()V"⟩
abbrev cX1_append : ByteArray := prog_3_method_2_code
def yX1_append : MethodName := ⟨RX1, "append", "(I)V"⟩
abbrev cX1_characterAt : ByteArray := prog_3_method_3_code
def yX1_characterAt : MethodName := ⟨RX1, "characterAt", "(I)I"⟩
abbrev cX1_takeFrom : ByteArray := prog_3_method_4_code
def yX1_takeFrom : MethodName := ⟨RX1, "takeFrom", "(LTabLines$Paragraph;)V"⟩
def RX2 : String := "TabLines$Pieces"
def TX2 : u_T := fun k => match k with
  | 0 => ("TabLines$Pieces", "pieceCount", "I", false)
  | 1 => ("TabLines$Pieces", "rows", "[I", true)
  | 2 => ("TabLines$Pieces", "columns", "[I", true)
  | 3 => ("TabLines$Pieces", "lengths", "[I", true)
  | 4 => ("TabLines$Pieces", "leaders", "[I", true)
  | _ => ("TabLines$Pieces", "sources", "[I", true)
def tyX2 : Nat → FieldType := fun k => match k with
  | 0 => .int
  | 1 => .array .int
  | 2 => .array .int
  | 3 => .array .int
  | 4 => .array .int
  | _ => .array .int
theorem nmX2 : ∀ a, a < 6 → ∀ b, b < 6 → a ≠ b → (TX2 a).2.1 ≠ (TX2 b).2.1 := by decide +kernel
theorem tyX2_ok : ∀ k, k < 6 → parseFieldDescriptor (TX2 k).2.2.1 = some (tyX2 k) := by decide +kernel
abbrev cX2_init : ByteArray := prog_4_method_1_code
def yX2_init : MethodName := ⟨RX2, "<init>", "()V"⟩
abbrev cX2_removeAll : ByteArray := prog_4_method_2_code
def yX2_removeAll : MethodName := ⟨RX2, "removeAll", "()V"⟩
abbrev cX2_add : ByteArray := prog_4_method_3_code
def yX2_add : MethodName := ⟨RX2, "add", "(IIIII)V"⟩
abbrev cX2_pieceAt : ByteArray := prog_4_method_4_code
def yX2_pieceAt : MethodName := ⟨RX2, "pieceAt", "(II)I"⟩
abbrev cX2_filled : ByteArray := prog_4_method_5_code
def yX2_filled : MethodName := ⟨RX2, "filled", "(Z)I"⟩
def RX3 : String := "TabLines$State"
def TX3 : u_T := fun k => match k with
  | 0 => ("TabLines$State", "columns", "I", false)
  | 1 => ("TabLines$State", "distance", "I", false)
  | 2 => ("TabLines$State", "paragraphCount", "I", false)
  | 3 => ("TabLines$State", "styles", "[LTabLines$Style;", true)
  | _ => ("TabLines$State", "paragraphs", "[LTabLines$Paragraph;", true)
def tyX3 : Nat → FieldType := fun k => match k with
  | 0 => .int
  | 1 => .int
  | 2 => .int
  | 3 => .array (.object "TabLines$Style")
  | _ => .array (.object "TabLines$Paragraph")
theorem nmX3 : ∀ a, a < 5 → ∀ b, b < 5 → a ≠ b → (TX3 a).2.1 ≠ (TX3 b).2.1 := by decide +kernel
theorem tyX3_ok : ∀ k, k < 5 → parseFieldDescriptor (TX3 k).2.2.1 = some (tyX3 k) := by decide +kernel
abbrev cX3_init : ByteArray := prog_5_method_1_code
def yX3_init : MethodName := ⟨RX3, "<init>", "()V"⟩
abbrev cX3_takeAllOf : ByteArray := prog_5_method_2_code
def yX3_takeAllOf : MethodName := ⟨RX3, "takeAllOf", "(LTabLines$State;)V"⟩
def RX4 : String := "TabLines$StopReader"
def TX4 : u_T := fun k => match k with
  | 0 => ("TabLines$StopReader", "read", "LTabLines$Style;", true)
  | 1 => ("TabLines$StopReader", "text", "[I", false)
  | 2 => ("TabLines$StopReader", "length", "I", false)
  | _ => ("TabLines$StopReader", "at", "I", false)
def tyX4 : Nat → FieldType := fun k => match k with
  | 0 => .object "TabLines$Style"
  | 1 => .array .int
  | 2 => .int
  | _ => .int
theorem nmX4 : ∀ a, a < 4 → ∀ b, b < 4 → a ≠ b → (TX4 a).2.1 ≠ (TX4 b).2.1 := by decide +kernel
theorem tyX4_ok : ∀ k, k < 4 → parseFieldDescriptor (TX4 k).2.2.1 = some (tyX4 k) := by decide +kernel
abbrev cX4_init : ByteArray := prog_6_method_1_code
def yX4_init : MethodName := ⟨RX4, "<init>", "()V"⟩
def RX5 : String := "TabLines$Style"
def TX5 : u_T := fun k => match k with
  | 0 => ("TabLines$Style", "first", "I", false)
  | 1 => ("TabLines$Style", "hanging", "I", false)
  | _ => ("TabLines$Style", "stopAt", "[I", true)
def tyX5 : Nat → FieldType := fun k => match k with
  | 0 => .int
  | 1 => .int
  | _ => .array .int
theorem nmX5 : ∀ a, a < 3 → ∀ b, b < 3 → a ≠ b → (TX5 a).2.1 ≠ (TX5 b).2.1 := by decide +kernel
theorem tyX5_ok : ∀ k, k < 3 → parseFieldDescriptor (TX5 k).2.2.1 = some (tyX5 k) := by decide +kernel
abbrev cX5_init : ByteArray := prog_7_method_1_code
def yX5_init : MethodName := ⟨RX5, "<init>", "()V"⟩
abbrev cX5_hasStop : ByteArray := prog_7_method_2_code
def yX5_hasStop : MethodName := ⟨RX5, "hasStop", "(I)Z"⟩
abbrev cX5_kindAt : ByteArray := prog_7_method_3_code
def yX5_kindAt : MethodName := ⟨RX5, "kindAt", "(I)I"⟩
abbrev cX5_leaderAt : ByteArray := prog_7_method_4_code
def yX5_leaderAt : MethodName := ⟨RX5, "leaderAt", "(I)I"⟩
abbrev cX5_putStop : ByteArray := prog_7_method_5_code
def yX5_putStop : MethodName := ⟨RX5, "putStop", "(III)V"⟩
abbrev cX5_dropStop : ByteArray := prog_7_method_6_code
def yX5_dropStop : MethodName := ⟨RX5, "dropStop", "(I)V"⟩
abbrev cX5_takeStopsOf : ByteArray := prog_7_method_8_code
def yX5_takeStopsOf : MethodName := ⟨RX5, "takeStopsOf", "(LTabLines$Style;)V"⟩
abbrev cX5_stopsBefore : ByteArray := prog_7_method_9_code
def yX5_stopsBefore : MethodName := ⟨RX5, "stopsBefore", "(I)I"⟩
abbrev cX5_positionOf : ByteArray := prog_7_method_10_code
def yX5_positionOf : MethodName := ⟨RX5, "positionOf", "(I)I"⟩
abbrev cX5_hasTab : ByteArray := prog_7_method_11_code
def yX5_hasTab : MethodName := ⟨RX5, "hasTab", "(I)Z"⟩
abbrev cX5_lastTab : ByteArray := prog_7_method_12_code
def yX5_lastTab : MethodName := ⟨RX5, "lastTab", "()I"⟩
abbrev cX5_tabBehind : ByteArray := prog_7_method_13_code
def yX5_tabBehind : MethodName := ⟨RX5, "tabBehind", "(I)I"⟩
def RX6 : String := "TabLines$Words"
def TX6 : u_T := fun k => match k with
  | 0 => ("TabLines$Words", "fieldCount", "I", false)
  | 1 => ("TabLines$Words", "wordCount", "I", false)
  | 2 => ("TabLines$Words", "starts", "[I", true)
  | 3 => ("TabLines$Words", "lengths", "[I", true)
  | 4 => ("TabLines$Words", "points", "[I", true)
  | _ => ("TabLines$Words", "ends", "[I", true)
def tyX6 : Nat → FieldType := fun k => match k with
  | 0 => .int
  | 1 => .int
  | 2 => .array .int
  | 3 => .array .int
  | 4 => .array .int
  | _ => .array .int
theorem nmX6 : ∀ a, a < 6 → ∀ b, b < 6 → a ≠ b → (TX6 a).2.1 ≠ (TX6 b).2.1 := by decide +kernel
theorem tyX6_ok : ∀ k, k < 6 → parseFieldDescriptor (TX6 k).2.2.1 = some (tyX6 k) := by decide +kernel
abbrev cX6_init : ByteArray := prog_8_method_1_code
def yX6_init : MethodName := ⟨RX6, "<init>", "()V"⟩
abbrev cX6_take : ByteArray := prog_8_method_2_code
def yX6_take : MethodName := ⟨RX6, "take", "(LTabLines$Paragraph;)V"⟩
abbrev cX6_startWord : ByteArray := prog_8_method_3_code
def yX6_startWord : MethodName := ⟨RX6, "startWord", "(I)V"⟩
abbrev cX6_growWord : ByteArray := prog_8_method_4_code
def yX6_growWord : MethodName := ⟨RX6, "growWord", "(I)V"⟩
abbrev cX6_endField : ByteArray := prog_8_method_5_code
def yX6_endField : MethodName := ⟨RX6, "endField", "()V"⟩
abbrev cX6_firstOf : ByteArray := prog_8_method_6_code
def yX6_firstOf : MethodName := ⟨RX6, "firstOf", "(I)I"⟩
abbrev cX6_endOf : ByteArray := prog_8_method_7_code
def yX6_endOf : MethodName := ⟨RX6, "endOf", "(I)I"⟩
abbrev cX6_startOf : ByteArray := prog_8_method_8_code
def yX6_startOf : MethodName := ⟨RX6, "startOf", "(I)I"⟩
abbrev cX6_lengthOf : ByteArray := prog_8_method_9_code
def yX6_lengthOf : MethodName := ⟨RX6, "lengthOf", "(I)I"⟩
abbrev cX6_pointOf : ByteArray := prog_8_method_10_code
def yX6_pointOf : MethodName := ⟨RX6, "pointOf", "(I)I"⟩
def RX7 : String := "TabLines"
def TX7 : u_T := fun k => match k with
  | 0 => ("TabLines", "state", "LTabLines$State;", true)
  | 1 => ("TabLines", "saved", "[LTabLines$State;", true)
  | 2 => ("TabLines", "savedCount", "I", false)
  | 3 => ("TabLines", "text", "[I", true)
  | 4 => ("TabLines", "textLength", "I", false)
  | 5 => ("TabLines", "reader", "LTabLines$StopReader;", true)
  | _ => ("TabLines", "layout", "LTabLines$Layout;", true)
def tyX7 : Nat → FieldType := fun k => match k with
  | 0 => .object "TabLines$State"
  | 1 => .array (.object "TabLines$State")
  | 2 => .int
  | 3 => .array .int
  | 4 => .int
  | 5 => .object "TabLines$StopReader"
  | _ => .object "TabLines$Layout"
theorem nmX7 : ∀ a, a < 7 → ∀ b, b < 7 → a ≠ b → (TX7 a).2.1 ≠ (TX7 b).2.1 := by decide +kernel
theorem tyX7_ok : ∀ k, k < 7 → parseFieldDescriptor (TX7 k).2.2.1 = some (tyX7 k) := by decide +kernel
abbrev cX7_init : ByteArray := prog_1_method_1_code
def yX7_init : MethodName := ⟨RX7, "<init>", "()V"⟩
abbrev cX7_setNumber : ByteArray := prog_1_method_2_code
def yX7_setNumber : MethodName := ⟨RX7, "setNumber", "(II)I"⟩
abbrev cX7_setIndent : ByteArray := prog_1_method_3_code
def yX7_setIndent : MethodName := ⟨RX7, "setIndent", "(III)I"⟩
abbrev cX7_setStop : ByteArray := prog_1_method_4_code
def yX7_setStop : MethodName := ⟨RX7, "setStop", "(IIII)I"⟩
abbrev cX7_removeStop : ByteArray := prog_1_method_5_code
def yX7_removeStop : MethodName := ⟨RX7, "removeStop", "(II)I"⟩
abbrev cX7_addParagraph : ByteArray := prog_1_method_9_code
def yX7_addParagraph : MethodName := ⟨RX7, "addParagraph", "(I)I"⟩
abbrev cX7_removeParagraph : ByteArray := prog_1_method_10_code
def yX7_removeParagraph : MethodName := ⟨RX7, "removeParagraph", "(I)I"⟩
abbrev cX7_setStyle : ByteArray := prog_1_method_11_code
def yX7_setStyle : MethodName := ⟨RX7, "setStyle", "(II)I"⟩
abbrev cX7_addWord : ByteArray := prog_1_method_13_code
def yX7_addWord : MethodName := ⟨RX7, "addWord", "(IIII)I"⟩
abbrev cX7_addAmount : ByteArray := prog_1_method_14_code
def yX7_addAmount : MethodName := ⟨RX7, "addAmount", "(II)I"⟩
abbrev cX7_count : ByteArray := prog_1_method_15_code
def yX7_count : MethodName := ⟨RX7, "count", "(I)I"⟩
abbrev cX7_style : ByteArray := prog_1_method_16_code
def yX7_style : MethodName := ⟨RX7, "style", "(II)I"⟩
abbrev cX7_stop : ByteArray := prog_1_method_17_code
def yX7_stop : MethodName := ⟨RX7, "stop", "(III)I"⟩
abbrev cX7_character : ByteArray := prog_1_method_18_code
def yX7_character : MethodName := ⟨RX7, "character", "(II)I"⟩
abbrev cX7_lines : ByteArray := prog_1_method_19_code
def yX7_lines : MethodName := ⟨RX7, "lines", "(I)I"⟩
abbrev cX7_field : ByteArray := prog_1_method_21_code
def yX7_field : MethodName := ⟨RX7, "field", "(III)I"⟩
abbrev cX7_holds : ByteArray := prog_1_method_22_code
def yX7_holds : MethodName := ⟨RX7, "holds", "(II)I"⟩
abbrev cX7_linesWith : ByteArray := prog_1_method_23_code
def yX7_linesWith : MethodName := ⟨RX7, "linesWith", "(II)I"⟩
abbrev cX7_leastColumns : ByteArray := prog_1_method_24_code
def yX7_leastColumns : MethodName := ⟨RX7, "leastColumns", "(II)I"⟩
abbrev cX7_undo : ByteArray := prog_1_method_25_code
def yX7_undo : MethodName := ⟨RX7, "undo", "()I"⟩
abbrev cX7_saveState : ByteArray := prog_1_method_26_code
def yX7_saveState : MethodName := ⟨RX7, "saveState", "()V"⟩
abbrev cX7_isStyle : ByteArray := prog_1_method_27_code
def yX7_isStyle : MethodName := ⟨RX7, "isStyle", "(I)Z"⟩
abbrev cX7_isParagraph : ByteArray := prog_1_method_28_code
def yX7_isParagraph : MethodName := ⟨RX7, "isParagraph", "(I)Z"⟩
abbrev cX7_styleOf : ByteArray := prog_1_method_29_code
def yX7_styleOf : MethodName := ⟨RX7, "styleOf", "(I)LTabLines$Style;"⟩
abbrev cX7_layOut : ByteArray := prog_1_method_30_code
def yX7_layOut : MethodName := ⟨RX7, "layOut", "(II)V"⟩
abbrev cX7_isWithin : ByteArray := prog_1_method_31_code
def yX7_isWithin : MethodName := ⟨RX7, "isWithin", "(III)Z"⟩
abbrev cX7_digitsOf : ByteArray := prog_1_method_34_code
def yX7_digitsOf : MethodName := ⟨RX7, "digitsOf", "(I)I"⟩
abbrev cX7_multipleBehind : ByteArray := prog_1_method_35_code
def yX7_multipleBehind : MethodName := ⟨RX7, "multipleBehind", "(II)I"⟩
def RX8 : String := "TabLinesModel"
def TX8 : u_T := fun k => match k with
  | _ => ("", "", "", false)
def tyX8 : Nat → FieldType := fun k => match k with
  | _ => .int
theorem nmX8 : ∀ a, a < 0 → ∀ b, b < 0 → a ≠ b → (TX8 a).2.1 ≠ (TX8 b).2.1 := by decide +kernel
theorem tyX8_ok : ∀ k, k < 0 → parseFieldDescriptor (TX8 k).2.2.1 = some (tyX8 k) := by decide +kernel
def RJ9 : String := "java/lang/Math"
def TJ9 : u_T := fun k => match k with
  | _ => ("", "", "", false)
abbrev cJ9_max_7cf53 : ByteArray := prog_11_method_65_code
def yJ9_max_7cf53 : MethodName := ⟨RJ9, "max", "(II)I"⟩
abbrev cJ9_min_7cf53 : ByteArray := prog_11_method_69_code
def yJ9_min_7cf53 : MethodName := ⟨RJ9, "min", "(II)I"⟩
def RL : String := "TabLinesLaw"
abbrev cL_cell : ByteArray := method_2_code
def yL_cell : MethodName := ⟨RL, "cell", "([II)I"⟩
abbrev cL_low : ByteArray := method_3_code
def yL_low : MethodName := ⟨RL, "low", "(II)I"⟩
abbrev cL_tale : ByteArray := method_4_code
def yL_tale : MethodName := ⟨RL, "tale", "(LTabLines;)J"⟩
abbrev cL_does : ByteArray := method_5_code
def yL_does : MethodName := ⟨RL, "does", "(LTabLines;I)I"⟩
abbrev cL_law : ByteArray := code
def yL_law : MethodName := ⟨RL, "law", "([I)Z"⟩
theorem dX0_init_0 : decode cX0_init 0 = .ok (.aload_n 0, 1) := by decide +kernel
theorem dX0_init_1 : decode cX0_init 1 = .ok (.invokespecial 3, 3) := by decide +kernel
theorem dX0_init_4 : decode cX0_init 4 = .ok (.aload_n 0, 1) := by decide +kernel
theorem dX0_init_5 : decode cX0_init 5 = .ok (.new 9, 3) := by decide +kernel
theorem dX0_init_8 : decode cX0_init 8 = .ok (.dup, 1) := by decide +kernel
theorem dX0_init_9 : decode cX0_init 9 = .ok (.invokespecial 11, 3) := by decide +kernel
theorem dX0_init_12 : decode cX0_init 12 = .ok (.putfield 12, 3) := by decide +kernel
theorem dX0_init_15 : decode cX0_init 15 = .ok (.aload_n 0, 1) := by decide +kernel
theorem dX0_init_16 : decode cX0_init 16 = .ok (.new 18, 3) := by decide +kernel
theorem dX0_init_19 : decode cX0_init 19 = .ok (.dup, 1) := by decide +kernel
theorem dX0_init_20 : decode cX0_init 20 = .ok (.invokespecial 20, 3) := by decide +kernel
theorem dX0_init_23 : decode cX0_init 23 = .ok (.putfield 21, 3) := by decide +kernel
theorem dX0_init_26 : decode cX0_init 26 = .ok (.aload_n 0, 1) := by decide +kernel
theorem dX0_init_27 : decode cX0_init 27 = .ok (.bipush 81, 2) := by decide +kernel
theorem dX0_init_29 : decode cX0_init 29 = .ok (.bipush 6, 2) := by decide +kernel
theorem dX0_init_31 : decode cX0_init 31 = .ok (.multianewarray 25 2, 4) := by decide +kernel
theorem dX0_init_35 : decode cX0_init 35 = .ok (.putfield 27, 3) := by decide +kernel
theorem dX0_init_38 : decode cX0_init 38 = .ok (.return_, 1) := by decide +kernel
theorem dX0_lineCount_0 : decode cX0_lineCount 0 = .ok (.aload_n 0, 1) := by decide +kernel
theorem dX0_lineCount_1 : decode cX0_lineCount 1 = .ok (.getfield 30, 3) := by decide +kernel
theorem dX0_lineCount_4 : decode cX0_lineCount 4 = .ok (.iconst 1, 1) := by decide +kernel
theorem dX0_lineCount_5 : decode cX0_lineCount 5 = .ok (.iadd, 1) := by decide +kernel
theorem dX0_lineCount_6 : decode cX0_lineCount 6 = .ok (.ireturn, 1) := by decide +kernel
theorem dX0_fill_0 : decode cX0_fill 0 = .ok (.aload_n 0, 1) := by decide +kernel
theorem dX0_fill_1 : decode cX0_fill 1 = .ok (.getfield 12, 3) := by decide +kernel
theorem dX0_fill_4 : decode cX0_fill 4 = .ok (.aload_n 1, 1) := by decide +kernel
theorem dX0_fill_5 : decode cX0_fill 5 = .ok (.invokevirtual 34, 3) := by decide +kernel
theorem dX0_fill_8 : decode cX0_fill 8 = .ok (.aload_n 0, 1) := by decide +kernel
theorem dX0_fill_9 : decode cX0_fill 9 = .ok (.getfield 21, 3) := by decide +kernel
theorem dX0_fill_12 : decode cX0_fill 12 = .ok (.invokevirtual 38, 3) := by decide +kernel
theorem dX0_fill_15 : decode cX0_fill 15 = .ok (.aload_n 0, 1) := by decide +kernel
theorem dX0_fill_16 : decode cX0_fill 16 = .ok (.iload_n 3, 1) := by decide +kernel
theorem dX0_fill_17 : decode cX0_fill 17 = .ok (.putfield 41, 3) := by decide +kernel
theorem dX0_fill_20 : decode cX0_fill 20 = .ok (.aload_n 0, 1) := by decide +kernel
theorem dX0_fill_21 : decode cX0_fill 21 = .ok (.iload 4, 2) := by decide +kernel
theorem dX0_fill_23 : decode cX0_fill 23 = .ok (.putfield 44, 3) := by decide +kernel
theorem dX0_fill_26 : decode cX0_fill 26 = .ok (.aload_n 0, 1) := by decide +kernel
theorem dX0_fill_27 : decode cX0_fill 27 = .ok (.aload_n 2, 1) := by decide +kernel
theorem dX0_fill_28 : decode cX0_fill 28 = .ok (.getfield 47, 3) := by decide +kernel
theorem dX0_fill_31 : decode cX0_fill 31 = .ok (.putfield 52, 3) := by decide +kernel
theorem dX0_fill_34 : decode cX0_fill 34 = .ok (.aload_n 0, 1) := by decide +kernel
theorem dX0_fill_35 : decode cX0_fill 35 = .ok (.iconst 0, 1) := by decide +kernel
theorem dX0_fill_36 : decode cX0_fill 36 = .ok (.putfield 30, 3) := by decide +kernel
theorem dX0_fill_39 : decode cX0_fill 39 = .ok (.aload_n 0, 1) := by decide +kernel
theorem dX0_fill_40 : decode cX0_fill 40 = .ok (.aload_n 2, 1) := by decide +kernel
theorem dX0_fill_41 : decode cX0_fill 41 = .ok (.getfield 53, 3) := by decide +kernel
theorem dX0_fill_44 : decode cX0_fill 44 = .ok (.putfield 56, 3) := by decide +kernel
theorem dX0_fill_47 : decode cX0_fill 47 = .ok (.iconst 0, 1) := by decide +kernel
theorem dX0_fill_48 : decode cX0_fill 48 = .ok (.istore 5, 2) := by decide +kernel
theorem dX0_fill_50 : decode cX0_fill 50 = .ok (.iload 5, 2) := by decide +kernel
theorem dX0_fill_52 : decode cX0_fill 52 = .ok (.aload_n 0, 1) := by decide +kernel
theorem dX0_fill_53 : decode cX0_fill 53 = .ok (.getfield 12, 3) := by decide +kernel
theorem dX0_fill_56 : decode cX0_fill 56 = .ok (.getfield 59, 3) := by decide +kernel
theorem dX0_fill_59 : decode cX0_fill 59 = .ok (.if_icmp .ge 67, 3) := by decide +kernel
theorem dX0_fill_62 : decode cX0_fill 62 = .ok (.iload 5, 2) := by decide +kernel
theorem dX0_fill_64 : decode cX0_fill 64 = .ok (.bipush 81, 2) := by decide +kernel
theorem dX0_fill_66 : decode cX0_fill 66 = .ok (.if_icmp .ge 60, 3) := by decide +kernel
theorem dX0_fill_69 : decode cX0_fill 69 = .ok (.aload_n 0, 1) := by decide +kernel
theorem dX0_fill_70 : decode cX0_fill 70 = .ok (.iload 5, 2) := by decide +kernel
theorem dX0_fill_72 : decode cX0_fill 72 = .ok (.putfield 62, 3) := by decide +kernel
theorem dX0_fill_75 : decode cX0_fill 75 = .ok (.iload 5, 2) := by decide +kernel
theorem dX0_fill_77 : decode cX0_fill 77 = .ok (.ifCond .ne 38, 3) := by decide +kernel
theorem dX0_fill_80 : decode cX0_fill 80 = .ok (.aload_n 0, 1) := by decide +kernel
theorem dX0_fill_81 : decode cX0_fill 81 = .ok (.bipush (-9), 2) := by decide +kernel
theorem dX0_fill_83 : decode cX0_fill 83 = .ok (.bipush (-9), 2) := by decide +kernel
theorem dX0_fill_85 : decode cX0_fill 85 = .ok (.bipush (-9), 2) := by decide +kernel
theorem dX0_fill_87 : decode cX0_fill 87 = .ok (.invokevirtual 65, 3) := by decide +kernel
theorem dX0_fill_90 : decode cX0_fill 90 = .ok (.aload_n 0, 1) := by decide +kernel
theorem dX0_fill_91 : decode cX0_fill 91 = .ok (.aload_n 0, 1) := by decide +kernel
theorem dX0_fill_92 : decode cX0_fill 92 = .ok (.getfield 12, 3) := by decide +kernel
theorem dX0_fill_95 : decode cX0_fill 95 = .ok (.iload 5, 2) := by decide +kernel
theorem dX0_fill_97 : decode cX0_fill 97 = .ok (.invokevirtual 69, 3) := by decide +kernel
theorem dX0_fill_100 : decode cX0_fill 100 = .ok (.aload_n 0, 1) := by decide +kernel
theorem dX0_fill_101 : decode cX0_fill 101 = .ok (.getfield 12, 3) := by decide +kernel
theorem dX0_fill_104 : decode cX0_fill 104 = .ok (.iload 5, 2) := by decide +kernel
theorem dX0_fill_106 : decode cX0_fill 106 = .ok (.invokevirtual 73, 3) := by decide +kernel
theorem dX0_fill_109 : decode cX0_fill 109 = .ok (.invokevirtual 76, 3) := by decide +kernel
theorem dX0_fill_112 : decode cX0_fill 112 = .ok (.goto 8, 3) := by decide +kernel
theorem dX0_fill_115 : decode cX0_fill 115 = .ok (.aload_n 0, 1) := by decide +kernel
theorem dX0_fill_116 : decode cX0_fill 116 = .ok (.aload_n 2, 1) := by decide +kernel
theorem dX0_fill_117 : decode cX0_fill 117 = .ok (.invokevirtual 80, 3) := by decide +kernel
theorem dX0_fill_120 : decode cX0_fill 120 = .ok (.iinc 5 1, 3) := by decide +kernel
theorem dX0_fill_123 : decode cX0_fill 123 = .ok (.goto (-73), 3) := by decide +kernel
theorem dX0_fill_126 : decode cX0_fill 126 = .ok (.return_, 1) := by decide +kernel
theorem dX0_fillBehindTab_0 : decode cX0_fillBehindTab 0 = .ok (.aload_n 0, 1) := by decide +kernel
theorem dX0_fillBehindTab_1 : decode cX0_fillBehindTab 1 = .ok (.getfield 12, 3) := by decide +kernel
theorem dX0_fillBehindTab_4 : decode cX0_fillBehindTab 4 = .ok (.aload_n 0, 1) := by decide +kernel
theorem dX0_fillBehindTab_5 : decode cX0_fillBehindTab 5 = .ok (.getfield 62, 3) := by decide +kernel
theorem dX0_fillBehindTab_8 : decode cX0_fillBehindTab 8 = .ok (.invokevirtual 69, 3) := by decide +kernel
theorem dX0_fillBehindTab_11 : decode cX0_fillBehindTab 11 = .ok (.istore_n 2, 1) := by decide +kernel
theorem dX0_fillBehindTab_12 : decode cX0_fillBehindTab 12 = .ok (.aload_n 0, 1) := by decide +kernel
theorem dX0_fillBehindTab_13 : decode cX0_fillBehindTab 13 = .ok (.getfield 12, 3) := by decide +kernel
theorem dX0_fillBehindTab_16 : decode cX0_fillBehindTab 16 = .ok (.aload_n 0, 1) := by decide +kernel
theorem dX0_fillBehindTab_17 : decode cX0_fillBehindTab 17 = .ok (.getfield 62, 3) := by decide +kernel
theorem dX0_fillBehindTab_20 : decode cX0_fillBehindTab 20 = .ok (.invokevirtual 73, 3) := by decide +kernel
theorem dX0_fillBehindTab_23 : decode cX0_fillBehindTab 23 = .ok (.istore_n 3, 1) := by decide +kernel
theorem dX0_fillBehindTab_24 : decode cX0_fillBehindTab 24 = .ok (.aload_n 1, 1) := by decide +kernel
theorem dX0_fillBehindTab_25 : decode cX0_fillBehindTab 25 = .ok (.aload_n 0, 1) := by decide +kernel
theorem dX0_fillBehindTab_26 : decode cX0_fillBehindTab 26 = .ok (.getfield 56, 3) := by decide +kernel
theorem dX0_fillBehindTab_29 : decode cX0_fillBehindTab 29 = .ok (.invokevirtual 84, 3) := by decide +kernel
theorem dX0_fillBehindTab_32 : decode cX0_fillBehindTab 32 = .ok (.istore 4, 2) := by decide +kernel
theorem dX0_fillBehindTab_34 : decode cX0_fillBehindTab 34 = .ok (.iload 4, 2) := by decide +kernel
theorem dX0_fillBehindTab_36 : decode cX0_fillBehindTab 36 = .ok (.bipush (-9), 2) := by decide +kernel
theorem dX0_fillBehindTab_38 : decode cX0_fillBehindTab 38 = .ok (.if_icmp .eq 7, 3) := by decide +kernel
theorem dX0_fillBehindTab_41 : decode cX0_fillBehindTab 41 = .ok (.iconst 1, 1) := by decide +kernel
theorem dX0_fillBehindTab_42 : decode cX0_fillBehindTab 42 = .ok (.goto 4, 3) := by decide +kernel
theorem dX0_fillBehindTab_45 : decode cX0_fillBehindTab 45 = .ok (.iconst 0, 1) := by decide +kernel
theorem dX0_fillBehindTab_46 : decode cX0_fillBehindTab 46 = .ok (.istore 5, 2) := by decide +kernel
theorem dX0_fillBehindTab_48 : decode cX0_fillBehindTab 48 = .ok (.iload 5, 2) := by decide +kernel
theorem dX0_fillBehindTab_50 : decode cX0_fillBehindTab 50 = .ok (.ifCond .eq 8, 3) := by decide +kernel
theorem dX0_fillBehindTab_53 : decode cX0_fillBehindTab 53 = .ok (.iload 4, 2) := by decide +kernel
theorem dX0_fillBehindTab_55 : decode cX0_fillBehindTab 55 = .ok (.goto 14, 3) := by decide +kernel
theorem dX0_fillBehindTab_58 : decode cX0_fillBehindTab 58 = .ok (.aload_n 0, 1) := by decide +kernel
theorem dX0_fillBehindTab_59 : decode cX0_fillBehindTab 59 = .ok (.getfield 56, 3) := by decide +kernel
theorem dX0_fillBehindTab_62 : decode cX0_fillBehindTab 62 = .ok (.aload_n 0, 1) := by decide +kernel
theorem dX0_fillBehindTab_63 : decode cX0_fillBehindTab 63 = .ok (.getfield 44, 3) := by decide +kernel
theorem dX0_fillBehindTab_66 : decode cX0_fillBehindTab 66 = .ok (.invokestatic 87, 3) := by decide +kernel
theorem dX0_fillBehindTab_69 : decode cX0_fillBehindTab 69 = .ok (.istore 6, 2) := by decide +kernel
theorem dX0_fillBehindTab_71 : decode cX0_fillBehindTab 71 = .ok (.iload 5, 2) := by decide +kernel
theorem dX0_fillBehindTab_73 : decode cX0_fillBehindTab 73 = .ok (.ifCond .eq 12, 3) := by decide +kernel
theorem dX0_fillBehindTab_76 : decode cX0_fillBehindTab 76 = .ok (.aload_n 1, 1) := by decide +kernel
theorem dX0_fillBehindTab_77 : decode cX0_fillBehindTab 77 = .ok (.iload 6, 2) := by decide +kernel
theorem dX0_fillBehindTab_79 : decode cX0_fillBehindTab 79 = .ok (.invokevirtual 91, 3) := by decide +kernel
theorem dX0_fillBehindTab_82 : decode cX0_fillBehindTab 82 = .ok (.goto 4, 3) := by decide +kernel
theorem dX0_fillBehindTab_85 : decode cX0_fillBehindTab 85 = .ok (.iconst 0, 1) := by decide +kernel
theorem dX0_fillBehindTab_86 : decode cX0_fillBehindTab 86 = .ok (.istore 7, 2) := by decide +kernel
theorem dX0_fillBehindTab_88 : decode cX0_fillBehindTab 88 = .ok (.aload_n 0, 1) := by decide +kernel
theorem dX0_fillBehindTab_89 : decode cX0_fillBehindTab 89 = .ok (.iload_n 2, 1) := by decide +kernel
theorem dX0_fillBehindTab_90 : decode cX0_fillBehindTab 90 = .ok (.iload_n 3, 1) := by decide +kernel
theorem dX0_fillBehindTab_91 : decode cX0_fillBehindTab 91 = .ok (.aload_n 0, 1) := by decide +kernel
theorem dX0_fillBehindTab_92 : decode cX0_fillBehindTab 92 = .ok (.getfield 41, 3) := by decide +kernel
theorem dX0_fillBehindTab_95 : decode cX0_fillBehindTab 95 = .ok (.iload 7, 2) := by decide +kernel
theorem dX0_fillBehindTab_97 : decode cX0_fillBehindTab 97 = .ok (.ifCond .ne 8, 3) := by decide +kernel
theorem dX0_fillBehindTab_100 : decode cX0_fillBehindTab 100 = .ok (.iload 6, 2) := by decide +kernel
theorem dX0_fillBehindTab_102 : decode cX0_fillBehindTab 102 = .ok (.goto 7, 3) := by decide +kernel
theorem dX0_fillBehindTab_105 : decode cX0_fillBehindTab 105 = .ok (.aload_n 0, 1) := by decide +kernel
theorem dX0_fillBehindTab_106 : decode cX0_fillBehindTab 106 = .ok (.getfield 56, 3) := by decide +kernel
theorem dX0_fillBehindTab_109 : decode cX0_fillBehindTab 109 = .ok (.isub, 1) := by decide +kernel
theorem dX0_fillBehindTab_110 : decode cX0_fillBehindTab 110 = .ok (.invokevirtual 94, 3) := by decide +kernel
theorem dX0_fillBehindTab_113 : decode cX0_fillBehindTab 113 = .ok (.iload 6, 2) := by decide +kernel
theorem dX0_fillBehindTab_115 : decode cX0_fillBehindTab 115 = .ok (.aload_n 0, 1) := by decide +kernel
theorem dX0_fillBehindTab_116 : decode cX0_fillBehindTab 116 = .ok (.getfield 41, 3) := by decide +kernel
theorem dX0_fillBehindTab_119 : decode cX0_fillBehindTab 119 = .ok (.if_icmp .gt 16, 3) := by decide +kernel
theorem dX0_fillBehindTab_122 : decode cX0_fillBehindTab 122 = .ok (.iload_n 2, 1) := by decide +kernel
theorem dX0_fillBehindTab_123 : decode cX0_fillBehindTab 123 = .ok (.iload_n 3, 1) := by decide +kernel
theorem dX0_fillBehindTab_124 : decode cX0_fillBehindTab 124 = .ok (.if_icmp .ge 32, 3) := by decide +kernel
theorem dX0_fillBehindTab_127 : decode cX0_fillBehindTab 127 = .ok (.aload_n 0, 1) := by decide +kernel
theorem dX0_fillBehindTab_128 : decode cX0_fillBehindTab 128 = .ok (.getfield 97, 3) := by decide +kernel
theorem dX0_fillBehindTab_131 : decode cX0_fillBehindTab 131 = .ok (.iload_n 2, 1) := by decide +kernel
theorem dX0_fillBehindTab_132 : decode cX0_fillBehindTab 132 = .ok (.if_icmp .ne 24, 3) := by decide +kernel
theorem dX0_fillBehindTab_135 : decode cX0_fillBehindTab 135 = .ok (.aload_n 0, 1) := by decide +kernel
theorem dX0_fillBehindTab_136 : decode cX0_fillBehindTab 136 = .ok (.invokevirtual 100, 3) := by decide +kernel
theorem dX0_fillBehindTab_139 : decode cX0_fillBehindTab 139 = .ok (.aload_n 0, 1) := by decide +kernel
theorem dX0_fillBehindTab_140 : decode cX0_fillBehindTab 140 = .ok (.bipush (-9), 2) := by decide +kernel
theorem dX0_fillBehindTab_142 : decode cX0_fillBehindTab 142 = .ok (.bipush (-9), 2) := by decide +kernel
theorem dX0_fillBehindTab_144 : decode cX0_fillBehindTab 144 = .ok (.bipush (-9), 2) := by decide +kernel
theorem dX0_fillBehindTab_146 : decode cX0_fillBehindTab 146 = .ok (.invokevirtual 65, 3) := by decide +kernel
theorem dX0_fillBehindTab_149 : decode cX0_fillBehindTab 149 = .ok (.aload_n 0, 1) := by decide +kernel
theorem dX0_fillBehindTab_150 : decode cX0_fillBehindTab 150 = .ok (.iload_n 2, 1) := by decide +kernel
theorem dX0_fillBehindTab_151 : decode cX0_fillBehindTab 151 = .ok (.iload_n 3, 1) := by decide +kernel
theorem dX0_fillBehindTab_152 : decode cX0_fillBehindTab 152 = .ok (.invokevirtual 76, 3) := by decide +kernel
theorem dX0_fillBehindTab_155 : decode cX0_fillBehindTab 155 = .ok (.return_, 1) := by decide +kernel
theorem dX0_fillBehindTab_156 : decode cX0_fillBehindTab 156 = .ok (.aload_n 0, 1) := by decide +kernel
theorem dX0_fillBehindTab_157 : decode cX0_fillBehindTab 157 = .ok (.iload 6, 2) := by decide +kernel
theorem dX0_fillBehindTab_159 : decode cX0_fillBehindTab 159 = .ok (.iload 7, 2) := by decide +kernel
theorem dX0_fillBehindTab_161 : decode cX0_fillBehindTab 161 = .ok (.iload 5, 2) := by decide +kernel
theorem dX0_fillBehindTab_163 : decode cX0_fillBehindTab 163 = .ok (.ifCond .eq 12, 3) := by decide +kernel
theorem dX0_fillBehindTab_166 : decode cX0_fillBehindTab 166 = .ok (.aload_n 1, 1) := by decide +kernel
theorem dX0_fillBehindTab_167 : decode cX0_fillBehindTab 167 = .ok (.iload 6, 2) := by decide +kernel
theorem dX0_fillBehindTab_169 : decode cX0_fillBehindTab 169 = .ok (.invokevirtual 103, 3) := by decide +kernel
theorem dX0_fillBehindTab_172 : decode cX0_fillBehindTab 172 = .ok (.goto 4, 3) := by decide +kernel
theorem dX0_fillBehindTab_175 : decode cX0_fillBehindTab 175 = .ok (.iconst 0, 1) := by decide +kernel
theorem dX0_fillBehindTab_176 : decode cX0_fillBehindTab 176 = .ok (.invokevirtual 106, 3) := by decide +kernel
theorem dX0_fillBehindTab_179 : decode cX0_fillBehindTab 179 = .ok (.aload_n 0, 1) := by decide +kernel
theorem dX0_fillBehindTab_180 : decode cX0_fillBehindTab 180 = .ok (.iload_n 2, 1) := by decide +kernel
theorem dX0_fillBehindTab_181 : decode cX0_fillBehindTab 181 = .ok (.aload_n 0, 1) := by decide +kernel
theorem dX0_fillBehindTab_182 : decode cX0_fillBehindTab 182 = .ok (.getfield 97, 3) := by decide +kernel
theorem dX0_fillBehindTab_185 : decode cX0_fillBehindTab 185 = .ok (.invokevirtual 76, 3) := by decide +kernel
theorem dX0_fillBehindTab_188 : decode cX0_fillBehindTab 188 = .ok (.aload_n 0, 1) := by decide +kernel
theorem dX0_fillBehindTab_189 : decode cX0_fillBehindTab 189 = .ok (.getfield 97, 3) := by decide +kernel
theorem dX0_fillBehindTab_192 : decode cX0_fillBehindTab 192 = .ok (.iload_n 3, 1) := by decide +kernel
theorem dX0_fillBehindTab_193 : decode cX0_fillBehindTab 193 = .ok (.if_icmp .ge 16, 3) := by decide +kernel
theorem dX0_fillBehindTab_196 : decode cX0_fillBehindTab 196 = .ok (.aload_n 0, 1) := by decide +kernel
theorem dX0_fillBehindTab_197 : decode cX0_fillBehindTab 197 = .ok (.invokevirtual 100, 3) := by decide +kernel
theorem dX0_fillBehindTab_200 : decode cX0_fillBehindTab 200 = .ok (.aload_n 0, 1) := by decide +kernel
theorem dX0_fillBehindTab_201 : decode cX0_fillBehindTab 201 = .ok (.aload_n 0, 1) := by decide +kernel
theorem dX0_fillBehindTab_202 : decode cX0_fillBehindTab 202 = .ok (.getfield 97, 3) := by decide +kernel
theorem dX0_fillBehindTab_205 : decode cX0_fillBehindTab 205 = .ok (.iload_n 3, 1) := by decide +kernel
theorem dX0_fillBehindTab_206 : decode cX0_fillBehindTab 206 = .ok (.invokevirtual 76, 3) := by decide +kernel
theorem dX0_fillBehindTab_209 : decode cX0_fillBehindTab 209 = .ok (.return_, 1) := by decide +kernel
theorem dX0_measureRun_0 : decode cX0_measureRun 0 = .ok (.aload_n 0, 1) := by decide +kernel
theorem dX0_measureRun_1 : decode cX0_measureRun 1 = .ok (.iload_n 1, 1) := by decide +kernel
theorem dX0_measureRun_2 : decode cX0_measureRun 2 = .ok (.putfield 97, 3) := by decide +kernel
theorem dX0_measureRun_5 : decode cX0_measureRun 5 = .ok (.aload_n 0, 1) := by decide +kernel
theorem dX0_measureRun_6 : decode cX0_measureRun 6 = .ok (.iconst 0, 1) := by decide +kernel
theorem dX0_measureRun_7 : decode cX0_measureRun 7 = .ok (.putfield 109, 3) := by decide +kernel
theorem dX0_measureRun_10 : decode cX0_measureRun 10 = .ok (.aload_n 0, 1) := by decide +kernel
theorem dX0_measureRun_11 : decode cX0_measureRun 11 = .ok (.iconst (-1), 1) := by decide +kernel
theorem dX0_measureRun_12 : decode cX0_measureRun 12 = .ok (.putfield 112, 3) := by decide +kernel
theorem dX0_measureRun_15 : decode cX0_measureRun 15 = .ok (.iload_n 1, 1) := by decide +kernel
theorem dX0_measureRun_16 : decode cX0_measureRun 16 = .ok (.istore 4, 2) := by decide +kernel
theorem dX0_measureRun_18 : decode cX0_measureRun 18 = .ok (.iload 4, 2) := by decide +kernel
theorem dX0_measureRun_20 : decode cX0_measureRun 20 = .ok (.iload_n 2, 1) := by decide +kernel
theorem dX0_measureRun_21 : decode cX0_measureRun 21 = .ok (.if_icmp .ge 107, 3) := by decide +kernel
theorem dX0_measureRun_24 : decode cX0_measureRun 24 = .ok (.iload 4, 2) := by decide +kernel
theorem dX0_measureRun_26 : decode cX0_measureRun 26 = .ok (.iload_n 1, 1) := by decide +kernel
theorem dX0_measureRun_27 : decode cX0_measureRun 27 = .ok (.if_icmp .ne 7, 3) := by decide +kernel
theorem dX0_measureRun_30 : decode cX0_measureRun 30 = .ok (.iconst 0, 1) := by decide +kernel
theorem dX0_measureRun_31 : decode cX0_measureRun 31 = .ok (.goto 9, 3) := by decide +kernel
theorem dX0_measureRun_34 : decode cX0_measureRun 34 = .ok (.aload_n 0, 1) := by decide +kernel
theorem dX0_measureRun_35 : decode cX0_measureRun 35 = .ok (.getfield 109, 3) := by decide +kernel
theorem dX0_measureRun_38 : decode cX0_measureRun 38 = .ok (.iconst 1, 1) := by decide +kernel
theorem dX0_measureRun_39 : decode cX0_measureRun 39 = .ok (.iadd, 1) := by decide +kernel
theorem dX0_measureRun_40 : decode cX0_measureRun 40 = .ok (.istore 5, 2) := by decide +kernel
theorem dX0_measureRun_42 : decode cX0_measureRun 42 = .ok (.iload 5, 2) := by decide +kernel
theorem dX0_measureRun_44 : decode cX0_measureRun 44 = .ok (.aload_n 0, 1) := by decide +kernel
theorem dX0_measureRun_45 : decode cX0_measureRun 45 = .ok (.getfield 12, 3) := by decide +kernel
theorem dX0_measureRun_48 : decode cX0_measureRun 48 = .ok (.iload 4, 2) := by decide +kernel
theorem dX0_measureRun_50 : decode cX0_measureRun 50 = .ok (.invokevirtual 115, 3) := by decide +kernel
theorem dX0_measureRun_53 : decode cX0_measureRun 53 = .ok (.iadd, 1) := by decide +kernel
theorem dX0_measureRun_54 : decode cX0_measureRun 54 = .ok (.iload_n 3, 1) := by decide +kernel
theorem dX0_measureRun_55 : decode cX0_measureRun 55 = .ok (.if_icmp .le 6, 3) := by decide +kernel
theorem dX0_measureRun_58 : decode cX0_measureRun 58 = .ok (.goto 70, 3) := by decide +kernel
theorem dX0_measureRun_61 : decode cX0_measureRun 61 = .ok (.aload_n 0, 1) := by decide +kernel
theorem dX0_measureRun_62 : decode cX0_measureRun 62 = .ok (.getfield 112, 3) := by decide +kernel
theorem dX0_measureRun_65 : decode cX0_measureRun 65 = .ok (.iconst (-1), 1) := by decide +kernel
theorem dX0_measureRun_66 : decode cX0_measureRun 66 = .ok (.if_icmp .ne 32, 3) := by decide +kernel
theorem dX0_measureRun_69 : decode cX0_measureRun 69 = .ok (.aload_n 0, 1) := by decide +kernel
theorem dX0_measureRun_70 : decode cX0_measureRun 70 = .ok (.getfield 12, 3) := by decide +kernel
theorem dX0_measureRun_73 : decode cX0_measureRun 73 = .ok (.iload 4, 2) := by decide +kernel
theorem dX0_measureRun_75 : decode cX0_measureRun 75 = .ok (.invokevirtual 118, 3) := by decide +kernel
theorem dX0_measureRun_78 : decode cX0_measureRun 78 = .ok (.iconst (-1), 1) := by decide +kernel
theorem dX0_measureRun_79 : decode cX0_measureRun 79 = .ok (.if_icmp .eq 19, 3) := by decide +kernel
theorem dX0_measureRun_82 : decode cX0_measureRun 82 = .ok (.aload_n 0, 1) := by decide +kernel
theorem dX0_measureRun_83 : decode cX0_measureRun 83 = .ok (.iload 5, 2) := by decide +kernel
theorem dX0_measureRun_85 : decode cX0_measureRun 85 = .ok (.aload_n 0, 1) := by decide +kernel
theorem dX0_measureRun_86 : decode cX0_measureRun 86 = .ok (.getfield 12, 3) := by decide +kernel
theorem dX0_measureRun_89 : decode cX0_measureRun 89 = .ok (.iload 4, 2) := by decide +kernel
theorem dX0_measureRun_91 : decode cX0_measureRun 91 = .ok (.invokevirtual 118, 3) := by decide +kernel
theorem dX0_measureRun_94 : decode cX0_measureRun 94 = .ok (.iadd, 1) := by decide +kernel
theorem dX0_measureRun_95 : decode cX0_measureRun 95 = .ok (.putfield 112, 3) := by decide +kernel
theorem dX0_measureRun_98 : decode cX0_measureRun 98 = .ok (.aload_n 0, 1) := by decide +kernel
theorem dX0_measureRun_99 : decode cX0_measureRun 99 = .ok (.iload 5, 2) := by decide +kernel
theorem dX0_measureRun_101 : decode cX0_measureRun 101 = .ok (.aload_n 0, 1) := by decide +kernel
theorem dX0_measureRun_102 : decode cX0_measureRun 102 = .ok (.getfield 12, 3) := by decide +kernel
theorem dX0_measureRun_105 : decode cX0_measureRun 105 = .ok (.iload 4, 2) := by decide +kernel
theorem dX0_measureRun_107 : decode cX0_measureRun 107 = .ok (.invokevirtual 115, 3) := by decide +kernel
theorem dX0_measureRun_110 : decode cX0_measureRun 110 = .ok (.iadd, 1) := by decide +kernel
theorem dX0_measureRun_111 : decode cX0_measureRun 111 = .ok (.putfield 109, 3) := by decide +kernel
theorem dX0_measureRun_114 : decode cX0_measureRun 114 = .ok (.aload_n 0, 1) := by decide +kernel
theorem dX0_measureRun_115 : decode cX0_measureRun 115 = .ok (.iload 4, 2) := by decide +kernel
theorem dX0_measureRun_117 : decode cX0_measureRun 117 = .ok (.iconst 1, 1) := by decide +kernel
theorem dX0_measureRun_118 : decode cX0_measureRun 118 = .ok (.iadd, 1) := by decide +kernel
theorem dX0_measureRun_119 : decode cX0_measureRun 119 = .ok (.putfield 97, 3) := by decide +kernel
theorem dX0_measureRun_122 : decode cX0_measureRun 122 = .ok (.iinc 4 1, 3) := by decide +kernel
theorem dX0_measureRun_125 : decode cX0_measureRun 125 = .ok (.goto (-107), 3) := by decide +kernel
theorem dX0_measureRun_128 : decode cX0_measureRun 128 = .ok (.aload_n 0, 1) := by decide +kernel
theorem dX0_measureRun_129 : decode cX0_measureRun 129 = .ok (.getfield 112, 3) := by decide +kernel
theorem dX0_measureRun_132 : decode cX0_measureRun 132 = .ok (.iconst (-1), 1) := by decide +kernel
theorem dX0_measureRun_133 : decode cX0_measureRun 133 = .ok (.if_icmp .ne 11, 3) := by decide +kernel
theorem dX0_measureRun_136 : decode cX0_measureRun 136 = .ok (.aload_n 0, 1) := by decide +kernel
theorem dX0_measureRun_137 : decode cX0_measureRun 137 = .ok (.aload_n 0, 1) := by decide +kernel
theorem dX0_measureRun_138 : decode cX0_measureRun 138 = .ok (.getfield 109, 3) := by decide +kernel
theorem dX0_measureRun_141 : decode cX0_measureRun 141 = .ok (.putfield 112, 3) := by decide +kernel
theorem dX0_measureRun_144 : decode cX0_measureRun 144 = .ok (.return_, 1) := by decide +kernel
theorem dX0_startRun_0 : decode cX0_startRun 0 = .ok (.iload_n 1, 1) := by decide +kernel
theorem dX0_startRun_1 : decode cX0_startRun 1 = .ok (.aload_n 0, 1) := by decide +kernel
theorem dX0_startRun_2 : decode cX0_startRun 2 = .ok (.iload_n 2, 1) := by decide +kernel
theorem dX0_startRun_3 : decode cX0_startRun 3 = .ok (.invokevirtual 121, 3) := by decide +kernel
theorem dX0_startRun_6 : decode cX0_startRun 6 = .ok (.isub, 1) := by decide +kernel
theorem dX0_startRun_7 : decode cX0_startRun 7 = .ok (.istore 4, 2) := by decide +kernel
theorem dX0_startRun_9 : decode cX0_startRun 9 = .ok (.iconst 0, 1) := by decide +kernel
theorem dX0_startRun_10 : decode cX0_startRun 10 = .ok (.istore 5, 2) := by decide +kernel
theorem dX0_startRun_12 : decode cX0_startRun 12 = .ok (.iload 4, 2) := by decide +kernel
theorem dX0_startRun_14 : decode cX0_startRun 14 = .ok (.aload_n 0, 1) := by decide +kernel
theorem dX0_startRun_15 : decode cX0_startRun 15 = .ok (.getfield 56, 3) := by decide +kernel
theorem dX0_startRun_18 : decode cX0_startRun 18 = .ok (.if_icmp .ge 15, 3) := by decide +kernel
theorem dX0_startRun_21 : decode cX0_startRun 21 = .ok (.aload_n 0, 1) := by decide +kernel
theorem dX0_startRun_22 : decode cX0_startRun 22 = .ok (.getfield 56, 3) := by decide +kernel
theorem dX0_startRun_25 : decode cX0_startRun 25 = .ok (.istore 4, 2) := by decide +kernel
theorem dX0_startRun_27 : decode cX0_startRun 27 = .ok (.iconst 1, 1) := by decide +kernel
theorem dX0_startRun_28 : decode cX0_startRun 28 = .ok (.istore 5, 2) := by decide +kernel
theorem dX0_startRun_30 : decode cX0_startRun 30 = .ok (.goto 31, 3) := by decide +kernel
theorem dX0_startRun_33 : decode cX0_startRun 33 = .ok (.iload 4, 2) := by decide +kernel
theorem dX0_startRun_35 : decode cX0_startRun 35 = .ok (.aload_n 0, 1) := by decide +kernel
theorem dX0_startRun_36 : decode cX0_startRun 36 = .ok (.getfield 109, 3) := by decide +kernel
theorem dX0_startRun_39 : decode cX0_startRun 39 = .ok (.iadd, 1) := by decide +kernel
theorem dX0_startRun_40 : decode cX0_startRun 40 = .ok (.aload_n 0, 1) := by decide +kernel
theorem dX0_startRun_41 : decode cX0_startRun 41 = .ok (.getfield 41, 3) := by decide +kernel
theorem dX0_startRun_44 : decode cX0_startRun 44 = .ok (.if_icmp .le 17, 3) := by decide +kernel
theorem dX0_startRun_47 : decode cX0_startRun 47 = .ok (.aload_n 0, 1) := by decide +kernel
theorem dX0_startRun_48 : decode cX0_startRun 48 = .ok (.getfield 41, 3) := by decide +kernel
theorem dX0_startRun_51 : decode cX0_startRun 51 = .ok (.aload_n 0, 1) := by decide +kernel
theorem dX0_startRun_52 : decode cX0_startRun 52 = .ok (.getfield 109, 3) := by decide +kernel
theorem dX0_startRun_55 : decode cX0_startRun 55 = .ok (.isub, 1) := by decide +kernel
theorem dX0_startRun_56 : decode cX0_startRun 56 = .ok (.istore 4, 2) := by decide +kernel
theorem dX0_startRun_58 : decode cX0_startRun 58 = .ok (.iconst 2, 1) := by decide +kernel
theorem dX0_startRun_59 : decode cX0_startRun 59 = .ok (.istore 5, 2) := by decide +kernel
theorem dX0_startRun_61 : decode cX0_startRun 61 = .ok (.iload_n 3, 1) := by decide +kernel
theorem dX0_startRun_62 : decode cX0_startRun 62 = .ok (.ifCond .eq 36, 3) := by decide +kernel
theorem dX0_startRun_65 : decode cX0_startRun 65 = .ok (.iload 4, 2) := by decide +kernel
theorem dX0_startRun_67 : decode cX0_startRun 67 = .ok (.aload_n 0, 1) := by decide +kernel
theorem dX0_startRun_68 : decode cX0_startRun 68 = .ok (.getfield 56, 3) := by decide +kernel
theorem dX0_startRun_71 : decode cX0_startRun 71 = .ok (.if_icmp .le 27, 3) := by decide +kernel
theorem dX0_startRun_74 : decode cX0_startRun 74 = .ok (.aload_n 0, 1) := by decide +kernel
theorem dX0_startRun_75 : decode cX0_startRun 75 = .ok (.getfield 21, 3) := by decide +kernel
theorem dX0_startRun_78 : decode cX0_startRun 78 = .ok (.aload_n 0, 1) := by decide +kernel
theorem dX0_startRun_79 : decode cX0_startRun 79 = .ok (.getfield 30, 3) := by decide +kernel
theorem dX0_startRun_82 : decode cX0_startRun 82 = .ok (.aload_n 0, 1) := by decide +kernel
theorem dX0_startRun_83 : decode cX0_startRun 83 = .ok (.getfield 56, 3) := by decide +kernel
theorem dX0_startRun_86 : decode cX0_startRun 86 = .ok (.iload 4, 2) := by decide +kernel
theorem dX0_startRun_88 : decode cX0_startRun 88 = .ok (.aload_n 0, 1) := by decide +kernel
theorem dX0_startRun_89 : decode cX0_startRun 89 = .ok (.getfield 56, 3) := by decide +kernel
theorem dX0_startRun_92 : decode cX0_startRun 92 = .ok (.isub, 1) := by decide +kernel
theorem dX0_startRun_93 : decode cX0_startRun 93 = .ok (.iload_n 3, 1) := by decide +kernel
theorem dX0_startRun_94 : decode cX0_startRun 94 = .ok (.iconst 0, 1) := by decide +kernel
theorem dX0_startRun_95 : decode cX0_startRun 95 = .ok (.invokevirtual 124, 3) := by decide +kernel
theorem dX0_startRun_98 : decode cX0_startRun 98 = .ok (.aload_n 0, 1) := by decide +kernel
theorem dX0_startRun_99 : decode cX0_startRun 99 = .ok (.iload 4, 2) := by decide +kernel
theorem dX0_startRun_101 : decode cX0_startRun 101 = .ok (.putfield 56, 3) := by decide +kernel
theorem dX0_startRun_104 : decode cX0_startRun 104 = .ok (.aload_n 0, 1) := by decide +kernel
theorem dX0_startRun_105 : decode cX0_startRun 105 = .ok (.iload_n 1, 1) := by decide +kernel
theorem dX0_startRun_106 : decode cX0_startRun 106 = .ok (.iload_n 2, 1) := by decide +kernel
theorem dX0_startRun_107 : decode cX0_startRun 107 = .ok (.iload 5, 2) := by decide +kernel
theorem dX0_startRun_109 : decode cX0_startRun 109 = .ok (.invokevirtual 65, 3) := by decide +kernel
theorem dX0_startRun_112 : decode cX0_startRun 112 = .ok (.return_, 1) := by decide +kernel
theorem dX0_runAhead_0 : decode cX0_runAhead 0 = .ok (.iload_n 1, 1) := by decide +kernel
theorem dX0_runAhead_1 : decode cX0_runAhead 1 = .ok (.tableswitch 44 1 3 #[27, 32, 39], 27) := by decide +kernel
theorem dX0_runAhead_28 : decode cX0_runAhead 28 = .ok (.aload_n 0, 1) := by decide +kernel
theorem dX0_runAhead_29 : decode cX0_runAhead 29 = .ok (.getfield 109, 3) := by decide +kernel
theorem dX0_runAhead_32 : decode cX0_runAhead 32 = .ok (.ireturn, 1) := by decide +kernel
theorem dX0_runAhead_33 : decode cX0_runAhead 33 = .ok (.aload_n 0, 1) := by decide +kernel
theorem dX0_runAhead_34 : decode cX0_runAhead 34 = .ok (.getfield 109, 3) := by decide +kernel
theorem dX0_runAhead_37 : decode cX0_runAhead 37 = .ok (.iconst 2, 1) := by decide +kernel
theorem dX0_runAhead_38 : decode cX0_runAhead 38 = .ok (.idiv, 1) := by decide +kernel
theorem dX0_runAhead_39 : decode cX0_runAhead 39 = .ok (.ireturn, 1) := by decide +kernel
theorem dX0_runAhead_40 : decode cX0_runAhead 40 = .ok (.aload_n 0, 1) := by decide +kernel
theorem dX0_runAhead_41 : decode cX0_runAhead 41 = .ok (.getfield 112, 3) := by decide +kernel
theorem dX0_runAhead_44 : decode cX0_runAhead 44 = .ok (.ireturn, 1) := by decide +kernel
theorem dX0_runAhead_45 : decode cX0_runAhead 45 = .ok (.iconst 0, 1) := by decide +kernel
theorem dX0_runAhead_46 : decode cX0_runAhead 46 = .ok (.ireturn, 1) := by decide +kernel
theorem dX0_startField_0 : decode cX0_startField 0 = .ok (.aload_n 0, 1) := by decide +kernel
theorem dX0_startField_1 : decode cX0_startField 1 = .ok (.getfield 62, 3) := by decide +kernel
theorem dX0_startField_4 : decode cX0_startField 4 = .ok (.ifCond .lt 59, 3) := by decide +kernel
theorem dX0_startField_7 : decode cX0_startField 7 = .ok (.aload_n 0, 1) := by decide +kernel
theorem dX0_startField_8 : decode cX0_startField 8 = .ok (.getfield 62, 3) := by decide +kernel
theorem dX0_startField_11 : decode cX0_startField 11 = .ok (.bipush 81, 2) := by decide +kernel
theorem dX0_startField_13 : decode cX0_startField 13 = .ok (.if_icmp .ge 50, 3) := by decide +kernel
theorem dX0_startField_16 : decode cX0_startField 16 = .ok (.aload_n 0, 1) := by decide +kernel
theorem dX0_startField_17 : decode cX0_startField 17 = .ok (.getfield 27, 3) := by decide +kernel
theorem dX0_startField_20 : decode cX0_startField 20 = .ok (.aload_n 0, 1) := by decide +kernel
theorem dX0_startField_21 : decode cX0_startField 21 = .ok (.getfield 62, 3) := by decide +kernel
theorem dX0_startField_24 : decode cX0_startField 24 = .ok (.aaload, 1) := by decide +kernel
theorem dX0_startField_25 : decode cX0_startField 25 = .ok (.astore 4, 2) := by decide +kernel
theorem dX0_startField_27 : decode cX0_startField 27 = .ok (.aload 4, 2) := by decide +kernel
theorem dX0_startField_29 : decode cX0_startField 29 = .ok (.iconst 0, 1) := by decide +kernel
theorem dX0_startField_30 : decode cX0_startField 30 = .ok (.aload_n 0, 1) := by decide +kernel
theorem dX0_startField_31 : decode cX0_startField 31 = .ok (.getfield 30, 3) := by decide +kernel
theorem dX0_startField_34 : decode cX0_startField 34 = .ok (.iastore, 1) := by decide +kernel
theorem dX0_startField_35 : decode cX0_startField 35 = .ok (.aload 4, 2) := by decide +kernel
theorem dX0_startField_37 : decode cX0_startField 37 = .ok (.iconst 1, 1) := by decide +kernel
theorem dX0_startField_38 : decode cX0_startField 38 = .ok (.aload_n 0, 1) := by decide +kernel
theorem dX0_startField_39 : decode cX0_startField 39 = .ok (.getfield 56, 3) := by decide +kernel
theorem dX0_startField_42 : decode cX0_startField 42 = .ok (.iastore, 1) := by decide +kernel
theorem dX0_startField_43 : decode cX0_startField 43 = .ok (.aload 4, 2) := by decide +kernel
theorem dX0_startField_45 : decode cX0_startField 45 = .ok (.iconst 2, 1) := by decide +kernel
theorem dX0_startField_46 : decode cX0_startField 46 = .ok (.iconst 0, 1) := by decide +kernel
theorem dX0_startField_47 : decode cX0_startField 47 = .ok (.iastore, 1) := by decide +kernel
theorem dX0_startField_48 : decode cX0_startField 48 = .ok (.aload 4, 2) := by decide +kernel
theorem dX0_startField_50 : decode cX0_startField 50 = .ok (.iconst 3, 1) := by decide +kernel
theorem dX0_startField_51 : decode cX0_startField 51 = .ok (.iload_n 1, 1) := by decide +kernel
theorem dX0_startField_52 : decode cX0_startField 52 = .ok (.iastore, 1) := by decide +kernel
theorem dX0_startField_53 : decode cX0_startField 53 = .ok (.aload 4, 2) := by decide +kernel
theorem dX0_startField_55 : decode cX0_startField 55 = .ok (.iconst 4, 1) := by decide +kernel
theorem dX0_startField_56 : decode cX0_startField 56 = .ok (.iload_n 2, 1) := by decide +kernel
theorem dX0_startField_57 : decode cX0_startField 57 = .ok (.iastore, 1) := by decide +kernel
theorem dX0_startField_58 : decode cX0_startField 58 = .ok (.aload 4, 2) := by decide +kernel
theorem dX0_startField_60 : decode cX0_startField 60 = .ok (.iconst 5, 1) := by decide +kernel
theorem dX0_startField_61 : decode cX0_startField 61 = .ok (.iload_n 3, 1) := by decide +kernel
theorem dX0_startField_62 : decode cX0_startField 62 = .ok (.iastore, 1) := by decide +kernel
theorem dX0_startField_63 : decode cX0_startField 63 = .ok (.return_, 1) := by decide +kernel
theorem dX0_startLine_0 : decode cX0_startLine 0 = .ok (.aload_n 0, 1) := by decide +kernel
theorem dX0_startLine_1 : decode cX0_startLine 1 = .ok (.dup, 1) := by decide +kernel
theorem dX0_startLine_2 : decode cX0_startLine 2 = .ok (.getfield 30, 3) := by decide +kernel
theorem dX0_startLine_5 : decode cX0_startLine 5 = .ok (.iconst 1, 1) := by decide +kernel
theorem dX0_startLine_6 : decode cX0_startLine 6 = .ok (.iadd, 1) := by decide +kernel
theorem dX0_startLine_7 : decode cX0_startLine 7 = .ok (.putfield 30, 3) := by decide +kernel
theorem dX0_startLine_10 : decode cX0_startLine 10 = .ok (.aload_n 0, 1) := by decide +kernel
theorem dX0_startLine_11 : decode cX0_startLine 11 = .ok (.aload_n 0, 1) := by decide +kernel
theorem dX0_startLine_12 : decode cX0_startLine 12 = .ok (.getfield 52, 3) := by decide +kernel
theorem dX0_startLine_15 : decode cX0_startLine 15 = .ok (.putfield 56, 3) := by decide +kernel
theorem dX0_startLine_18 : decode cX0_startLine 18 = .ok (.return_, 1) := by decide +kernel
theorem dX0_flow_0 : decode cX0_flow 0 = .ok (.iload_n 1, 1) := by decide +kernel
theorem dX0_flow_1 : decode cX0_flow 1 = .ok (.istore_n 3, 1) := by decide +kernel
theorem dX0_flow_2 : decode cX0_flow 2 = .ok (.iload_n 3, 1) := by decide +kernel
theorem dX0_flow_3 : decode cX0_flow 3 = .ok (.iload_n 2, 1) := by decide +kernel
theorem dX0_flow_4 : decode cX0_flow 4 = .ok (.if_icmp .ge 58, 3) := by decide +kernel
theorem dX0_flow_7 : decode cX0_flow 7 = .ok (.iload_n 3, 1) := by decide +kernel
theorem dX0_flow_8 : decode cX0_flow 8 = .ok (.iload_n 1, 1) := by decide +kernel
theorem dX0_flow_9 : decode cX0_flow 9 = .ok (.if_icmp .le 42, 3) := by decide +kernel
theorem dX0_flow_12 : decode cX0_flow 12 = .ok (.aload_n 0, 1) := by decide +kernel
theorem dX0_flow_13 : decode cX0_flow 13 = .ok (.getfield 56, 3) := by decide +kernel
theorem dX0_flow_16 : decode cX0_flow 16 = .ok (.iconst 1, 1) := by decide +kernel
theorem dX0_flow_17 : decode cX0_flow 17 = .ok (.iadd, 1) := by decide +kernel
theorem dX0_flow_18 : decode cX0_flow 18 = .ok (.aload_n 0, 1) := by decide +kernel
theorem dX0_flow_19 : decode cX0_flow 19 = .ok (.getfield 12, 3) := by decide +kernel
theorem dX0_flow_22 : decode cX0_flow 22 = .ok (.iload_n 3, 1) := by decide +kernel
theorem dX0_flow_23 : decode cX0_flow 23 = .ok (.invokevirtual 115, 3) := by decide +kernel
theorem dX0_flow_26 : decode cX0_flow 26 = .ok (.iadd, 1) := by decide +kernel
theorem dX0_flow_27 : decode cX0_flow 27 = .ok (.aload_n 0, 1) := by decide +kernel
theorem dX0_flow_28 : decode cX0_flow 28 = .ok (.getfield 41, 3) := by decide +kernel
theorem dX0_flow_31 : decode cX0_flow 31 = .ok (.if_icmp .gt 16, 3) := by decide +kernel
theorem dX0_flow_34 : decode cX0_flow 34 = .ok (.aload_n 0, 1) := by decide +kernel
theorem dX0_flow_35 : decode cX0_flow 35 = .ok (.dup, 1) := by decide +kernel
theorem dX0_flow_36 : decode cX0_flow 36 = .ok (.getfield 56, 3) := by decide +kernel
theorem dX0_flow_39 : decode cX0_flow 39 = .ok (.iconst 1, 1) := by decide +kernel
theorem dX0_flow_40 : decode cX0_flow 40 = .ok (.iadd, 1) := by decide +kernel
theorem dX0_flow_41 : decode cX0_flow 41 = .ok (.putfield 56, 3) := by decide +kernel
theorem dX0_flow_44 : decode cX0_flow 44 = .ok (.goto 7, 3) := by decide +kernel
theorem dX0_flow_47 : decode cX0_flow 47 = .ok (.aload_n 0, 1) := by decide +kernel
theorem dX0_flow_48 : decode cX0_flow 48 = .ok (.invokevirtual 100, 3) := by decide +kernel
theorem dX0_flow_51 : decode cX0_flow 51 = .ok (.aload_n 0, 1) := by decide +kernel
theorem dX0_flow_52 : decode cX0_flow 52 = .ok (.iload_n 3, 1) := by decide +kernel
theorem dX0_flow_53 : decode cX0_flow 53 = .ok (.invokevirtual 128, 3) := by decide +kernel
theorem dX0_flow_56 : decode cX0_flow 56 = .ok (.iinc 3 1, 3) := by decide +kernel
theorem dX0_flow_59 : decode cX0_flow 59 = .ok (.goto (-57), 3) := by decide +kernel
theorem dX0_flow_62 : decode cX0_flow 62 = .ok (.return_, 1) := by decide +kernel
theorem dX0_place_0 : decode cX0_place 0 = .ok (.aload_n 0, 1) := by decide +kernel
theorem dX0_place_1 : decode cX0_place 1 = .ok (.getfield 12, 3) := by decide +kernel
theorem dX0_place_4 : decode cX0_place 4 = .ok (.iload_n 1, 1) := by decide +kernel
theorem dX0_place_5 : decode cX0_place 5 = .ok (.invokevirtual 132, 3) := by decide +kernel
theorem dX0_place_8 : decode cX0_place 8 = .ok (.aload_n 0, 1) := by decide +kernel
theorem dX0_place_9 : decode cX0_place 9 = .ok (.getfield 12, 3) := by decide +kernel
theorem dX0_place_12 : decode cX0_place 12 = .ok (.iload_n 1, 1) := by decide +kernel
theorem dX0_place_13 : decode cX0_place 13 = .ok (.invokevirtual 115, 3) := by decide +kernel
theorem dX0_place_16 : decode cX0_place 16 = .ok (.iadd, 1) := by decide +kernel
theorem dX0_place_17 : decode cX0_place 17 = .ok (.istore_n 2, 1) := by decide +kernel
theorem dX0_place_18 : decode cX0_place 18 = .ok (.aload_n 0, 1) := by decide +kernel
theorem dX0_place_19 : decode cX0_place 19 = .ok (.getfield 12, 3) := by decide +kernel
theorem dX0_place_22 : decode cX0_place 22 = .ok (.iload_n 1, 1) := by decide +kernel
theorem dX0_place_23 : decode cX0_place 23 = .ok (.invokevirtual 115, 3) := by decide +kernel
theorem dX0_place_26 : decode cX0_place 26 = .ok (.istore_n 3, 1) := by decide +kernel
theorem dX0_place_27 : decode cX0_place 27 = .ok (.iload_n 3, 1) := by decide +kernel
theorem dX0_place_28 : decode cX0_place 28 = .ok (.ifCond .le 74, 3) := by decide +kernel
theorem dX0_place_31 : decode cX0_place 31 = .ok (.iload_n 3, 1) := by decide +kernel
theorem dX0_place_32 : decode cX0_place 32 = .ok (.iconst 1, 1) := by decide +kernel
theorem dX0_place_33 : decode cX0_place 33 = .ok (.aload_n 0, 1) := by decide +kernel
theorem dX0_place_34 : decode cX0_place 34 = .ok (.getfield 41, 3) := by decide +kernel
theorem dX0_place_37 : decode cX0_place 37 = .ok (.aload_n 0, 1) := by decide +kernel
theorem dX0_place_38 : decode cX0_place 38 = .ok (.getfield 56, 3) := by decide +kernel
theorem dX0_place_41 : decode cX0_place 41 = .ok (.isub, 1) := by decide +kernel
theorem dX0_place_42 : decode cX0_place 42 = .ok (.invokestatic 135, 3) := by decide +kernel
theorem dX0_place_45 : decode cX0_place 45 = .ok (.invokestatic 140, 3) := by decide +kernel
theorem dX0_place_48 : decode cX0_place 48 = .ok (.istore 4, 2) := by decide +kernel
theorem dX0_place_50 : decode cX0_place 50 = .ok (.aload_n 0, 1) := by decide +kernel
theorem dX0_place_51 : decode cX0_place 51 = .ok (.getfield 21, 3) := by decide +kernel
theorem dX0_place_54 : decode cX0_place 54 = .ok (.aload_n 0, 1) := by decide +kernel
theorem dX0_place_55 : decode cX0_place 55 = .ok (.getfield 30, 3) := by decide +kernel
theorem dX0_place_58 : decode cX0_place 58 = .ok (.aload_n 0, 1) := by decide +kernel
theorem dX0_place_59 : decode cX0_place 59 = .ok (.getfield 56, 3) := by decide +kernel
theorem dX0_place_62 : decode cX0_place 62 = .ok (.iload 4, 2) := by decide +kernel
theorem dX0_place_64 : decode cX0_place 64 = .ok (.iconst 0, 1) := by decide +kernel
theorem dX0_place_65 : decode cX0_place 65 = .ok (.iload_n 2, 1) := by decide +kernel
theorem dX0_place_66 : decode cX0_place 66 = .ok (.iload_n 3, 1) := by decide +kernel
theorem dX0_place_67 : decode cX0_place 67 = .ok (.isub, 1) := by decide +kernel
theorem dX0_place_68 : decode cX0_place 68 = .ok (.invokevirtual 124, 3) := by decide +kernel
theorem dX0_place_71 : decode cX0_place 71 = .ok (.aload_n 0, 1) := by decide +kernel
theorem dX0_place_72 : decode cX0_place 72 = .ok (.dup, 1) := by decide +kernel
theorem dX0_place_73 : decode cX0_place 73 = .ok (.getfield 56, 3) := by decide +kernel
theorem dX0_place_76 : decode cX0_place 76 = .ok (.iload 4, 2) := by decide +kernel
theorem dX0_place_78 : decode cX0_place 78 = .ok (.iadd, 1) := by decide +kernel
theorem dX0_place_79 : decode cX0_place 79 = .ok (.putfield 56, 3) := by decide +kernel
theorem dX0_place_82 : decode cX0_place 82 = .ok (.aload_n 0, 1) := by decide +kernel
theorem dX0_place_83 : decode cX0_place 83 = .ok (.invokevirtual 143, 3) := by decide +kernel
theorem dX0_place_86 : decode cX0_place 86 = .ok (.iload_n 3, 1) := by decide +kernel
theorem dX0_place_87 : decode cX0_place 87 = .ok (.iload 4, 2) := by decide +kernel
theorem dX0_place_89 : decode cX0_place 89 = .ok (.isub, 1) := by decide +kernel
theorem dX0_place_90 : decode cX0_place 90 = .ok (.istore_n 3, 1) := by decide +kernel
theorem dX0_place_91 : decode cX0_place 91 = .ok (.iload_n 3, 1) := by decide +kernel
theorem dX0_place_92 : decode cX0_place 92 = .ok (.ifCond .le 7, 3) := by decide +kernel
theorem dX0_place_95 : decode cX0_place 95 = .ok (.aload_n 0, 1) := by decide +kernel
theorem dX0_place_96 : decode cX0_place 96 = .ok (.invokevirtual 100, 3) := by decide +kernel
theorem dX0_place_99 : decode cX0_place 99 = .ok (.goto (-72), 3) := by decide +kernel
theorem dX0_place_102 : decode cX0_place 102 = .ok (.return_, 1) := by decide +kernel
theorem dX0_noteFilled_0 : decode cX0_noteFilled 0 = .ok (.aload_n 0, 1) := by decide +kernel
theorem dX0_noteFilled_1 : decode cX0_noteFilled 1 = .ok (.getfield 62, 3) := by decide +kernel
theorem dX0_noteFilled_4 : decode cX0_noteFilled 4 = .ok (.ifCond .lt 43, 3) := by decide +kernel
theorem dX0_noteFilled_7 : decode cX0_noteFilled 7 = .ok (.aload_n 0, 1) := by decide +kernel
theorem dX0_noteFilled_8 : decode cX0_noteFilled 8 = .ok (.getfield 62, 3) := by decide +kernel
theorem dX0_noteFilled_11 : decode cX0_noteFilled 11 = .ok (.bipush 81, 2) := by decide +kernel
theorem dX0_noteFilled_13 : decode cX0_noteFilled 13 = .ok (.if_icmp .ge 34, 3) := by decide +kernel
theorem dX0_noteFilled_16 : decode cX0_noteFilled 16 = .ok (.aload_n 0, 1) := by decide +kernel
theorem dX0_noteFilled_17 : decode cX0_noteFilled 17 = .ok (.getfield 27, 3) := by decide +kernel
theorem dX0_noteFilled_20 : decode cX0_noteFilled 20 = .ok (.aload_n 0, 1) := by decide +kernel
theorem dX0_noteFilled_21 : decode cX0_noteFilled 21 = .ok (.getfield 62, 3) := by decide +kernel
theorem dX0_noteFilled_24 : decode cX0_noteFilled 24 = .ok (.aaload, 1) := by decide +kernel
theorem dX0_noteFilled_25 : decode cX0_noteFilled 25 = .ok (.astore_n 1, 1) := by decide +kernel
theorem dX0_noteFilled_26 : decode cX0_noteFilled 26 = .ok (.aload_n 1, 1) := by decide +kernel
theorem dX0_noteFilled_27 : decode cX0_noteFilled 27 = .ok (.iconst 0, 1) := by decide +kernel
theorem dX0_noteFilled_28 : decode cX0_noteFilled 28 = .ok (.iaload, 1) := by decide +kernel
theorem dX0_noteFilled_29 : decode cX0_noteFilled 29 = .ok (.aload_n 0, 1) := by decide +kernel
theorem dX0_noteFilled_30 : decode cX0_noteFilled 30 = .ok (.getfield 30, 3) := by decide +kernel
theorem dX0_noteFilled_33 : decode cX0_noteFilled 33 = .ok (.if_icmp .ne 14, 3) := by decide +kernel
theorem dX0_noteFilled_36 : decode cX0_noteFilled 36 = .ok (.aload_n 1, 1) := by decide +kernel
theorem dX0_noteFilled_37 : decode cX0_noteFilled 37 = .ok (.iconst 2, 1) := by decide +kernel
theorem dX0_noteFilled_38 : decode cX0_noteFilled 38 = .ok (.aload_n 0, 1) := by decide +kernel
theorem dX0_noteFilled_39 : decode cX0_noteFilled 39 = .ok (.getfield 56, 3) := by decide +kernel
theorem dX0_noteFilled_42 : decode cX0_noteFilled 42 = .ok (.aload_n 1, 1) := by decide +kernel
theorem dX0_noteFilled_43 : decode cX0_noteFilled 43 = .ok (.iconst 1, 1) := by decide +kernel
theorem dX0_noteFilled_44 : decode cX0_noteFilled 44 = .ok (.iaload, 1) := by decide +kernel
theorem dX0_noteFilled_45 : decode cX0_noteFilled 45 = .ok (.isub, 1) := by decide +kernel
theorem dX0_noteFilled_46 : decode cX0_noteFilled 46 = .ok (.iastore, 1) := by decide +kernel
theorem dX0_noteFilled_47 : decode cX0_noteFilled 47 = .ok (.return_, 1) := by decide +kernel
theorem dX0_barColumns_0 : decode cX0_barColumns 0 = .ok (.iconst 0, 1) := by decide +kernel
theorem dX0_barColumns_1 : decode cX0_barColumns 1 = .ok (.istore_n 2, 1) := by decide +kernel
theorem dX0_barColumns_2 : decode cX0_barColumns 2 = .ok (.iconst 1, 1) := by decide +kernel
theorem dX0_barColumns_3 : decode cX0_barColumns 3 = .ok (.istore_n 3, 1) := by decide +kernel
theorem dX0_barColumns_4 : decode cX0_barColumns 4 = .ok (.iload_n 3, 1) := by decide +kernel
theorem dX0_barColumns_5 : decode cX0_barColumns 5 = .ok (.aload_n 0, 1) := by decide +kernel
theorem dX0_barColumns_6 : decode cX0_barColumns 6 = .ok (.getfield 41, 3) := by decide +kernel
theorem dX0_barColumns_9 : decode cX0_barColumns 9 = .ok (.if_icmp .ge 59, 3) := by decide +kernel
theorem dX0_barColumns_12 : decode cX0_barColumns 12 = .ok (.iload_n 3, 1) := by decide +kernel
theorem dX0_barColumns_13 : decode cX0_barColumns 13 = .ok (.bipush 80, 2) := by decide +kernel
theorem dX0_barColumns_15 : decode cX0_barColumns 15 = .ok (.if_icmp .gt 53, 3) := by decide +kernel
theorem dX0_barColumns_18 : decode cX0_barColumns 18 = .ok (.aload_n 1, 1) := by decide +kernel
theorem dX0_barColumns_19 : decode cX0_barColumns 19 = .ok (.iload_n 3, 1) := by decide +kernel
theorem dX0_barColumns_20 : decode cX0_barColumns 20 = .ok (.invokevirtual 91, 3) := by decide +kernel
theorem dX0_barColumns_23 : decode cX0_barColumns 23 = .ok (.iconst 4, 1) := by decide +kernel
theorem dX0_barColumns_24 : decode cX0_barColumns 24 = .ok (.if_icmp .ne 38, 3) := by decide +kernel
theorem dX0_barColumns_27 : decode cX0_barColumns 27 = .ok (.iconst 0, 1) := by decide +kernel
theorem dX0_barColumns_28 : decode cX0_barColumns 28 = .ok (.istore 4, 2) := by decide +kernel
theorem dX0_barColumns_30 : decode cX0_barColumns 30 = .ok (.iload 4, 2) := by decide +kernel
theorem dX0_barColumns_32 : decode cX0_barColumns 32 = .ok (.aload_n 0, 1) := by decide +kernel
theorem dX0_barColumns_33 : decode cX0_barColumns 33 = .ok (.getfield 30, 3) := by decide +kernel
theorem dX0_barColumns_36 : decode cX0_barColumns 36 = .ok (.if_icmp .gt 26, 3) := by decide +kernel
theorem dX0_barColumns_39 : decode cX0_barColumns 39 = .ok (.aload_n 0, 1) := by decide +kernel
theorem dX0_barColumns_40 : decode cX0_barColumns 40 = .ok (.getfield 21, 3) := by decide +kernel
theorem dX0_barColumns_43 : decode cX0_barColumns 43 = .ok (.iload 4, 2) := by decide +kernel
theorem dX0_barColumns_45 : decode cX0_barColumns 45 = .ok (.iload_n 3, 1) := by decide +kernel
theorem dX0_barColumns_46 : decode cX0_barColumns 46 = .ok (.invokevirtual 146, 3) := by decide +kernel
theorem dX0_barColumns_49 : decode cX0_barColumns 49 = .ok (.iconst (-1), 1) := by decide +kernel
theorem dX0_barColumns_50 : decode cX0_barColumns 50 = .ok (.if_icmp .ne 6, 3) := by decide +kernel
theorem dX0_barColumns_53 : decode cX0_barColumns 53 = .ok (.iinc 2 1, 3) := by decide +kernel
theorem dX0_barColumns_56 : decode cX0_barColumns 56 = .ok (.iinc 4 1, 3) := by decide +kernel
theorem dX0_barColumns_59 : decode cX0_barColumns 59 = .ok (.goto (-29), 3) := by decide +kernel
theorem dX0_barColumns_62 : decode cX0_barColumns 62 = .ok (.iinc 3 1, 3) := by decide +kernel
theorem dX0_barColumns_65 : decode cX0_barColumns 65 = .ok (.goto (-61), 3) := by decide +kernel
theorem dX0_barColumns_68 : decode cX0_barColumns 68 = .ok (.iload_n 2, 1) := by decide +kernel
theorem dX0_barColumns_69 : decode cX0_barColumns 69 = .ok (.ireturn, 1) := by decide +kernel
theorem dX1_init_0 : decode cX1_init 0 = .ok (.aload_n 0, 1) := by decide +kernel
theorem dX1_init_1 : decode cX1_init 1 = .ok (.invokespecial 3, 3) := by decide +kernel
theorem dX1_init_4 : decode cX1_init 4 = .ok (.aload_n 0, 1) := by decide +kernel
theorem dX1_init_5 : decode cX1_init 5 = .ok (.bipush 80, 2) := by decide +kernel
theorem dX1_init_7 : decode cX1_init 7 = .ok (.newarray .int, 2) := by decide +kernel
theorem dX1_init_9 : decode cX1_init 9 = .ok (.putfield 9, 3) := by decide +kernel
theorem dX1_init_12 : decode cX1_init 12 = .ok (.return_, 1) := by decide +kernel
theorem dX1_append_0 : decode cX1_append 0 = .ok (.aload_n 0, 1) := by decide +kernel
theorem dX1_append_1 : decode cX1_append 1 = .ok (.getfield 15, 3) := by decide +kernel
theorem dX1_append_4 : decode cX1_append 4 = .ok (.iconst 0, 1) := by decide +kernel
theorem dX1_append_5 : decode cX1_append 5 = .ok (.bipush 79, 2) := by decide +kernel
theorem dX1_append_7 : decode cX1_append 7 = .ok (.invokestatic 19, 3) := by decide +kernel
theorem dX1_append_10 : decode cX1_append 10 = .ok (.ifCond .eq 23, 3) := by decide +kernel
theorem dX1_append_13 : decode cX1_append 13 = .ok (.aload_n 0, 1) := by decide +kernel
theorem dX1_append_14 : decode cX1_append 14 = .ok (.getfield 9, 3) := by decide +kernel
theorem dX1_append_17 : decode cX1_append 17 = .ok (.aload_n 0, 1) := by decide +kernel
theorem dX1_append_18 : decode cX1_append 18 = .ok (.getfield 15, 3) := by decide +kernel
theorem dX1_append_21 : decode cX1_append 21 = .ok (.iload_n 1, 1) := by decide +kernel
theorem dX1_append_22 : decode cX1_append 22 = .ok (.iastore, 1) := by decide +kernel
theorem dX1_append_23 : decode cX1_append 23 = .ok (.aload_n 0, 1) := by decide +kernel
theorem dX1_append_24 : decode cX1_append 24 = .ok (.dup, 1) := by decide +kernel
theorem dX1_append_25 : decode cX1_append 25 = .ok (.getfield 15, 3) := by decide +kernel
theorem dX1_append_28 : decode cX1_append 28 = .ok (.iconst 1, 1) := by decide +kernel
theorem dX1_append_29 : decode cX1_append 29 = .ok (.iadd, 1) := by decide +kernel
theorem dX1_append_30 : decode cX1_append 30 = .ok (.putfield 15, 3) := by decide +kernel
theorem dX1_append_33 : decode cX1_append 33 = .ok (.return_, 1) := by decide +kernel
theorem dX1_characterAt_0 : decode cX1_characterAt 0 = .ok (.iload_n 1, 1) := by decide +kernel
theorem dX1_characterAt_1 : decode cX1_characterAt 1 = .ok (.ifCond .lt 21, 3) := by decide +kernel
theorem dX1_characterAt_4 : decode cX1_characterAt 4 = .ok (.iload_n 1, 1) := by decide +kernel
theorem dX1_characterAt_5 : decode cX1_characterAt 5 = .ok (.aload_n 0, 1) := by decide +kernel
theorem dX1_characterAt_6 : decode cX1_characterAt 6 = .ok (.getfield 15, 3) := by decide +kernel
theorem dX1_characterAt_9 : decode cX1_characterAt 9 = .ok (.if_icmp .ge 13, 3) := by decide +kernel
theorem dX1_characterAt_12 : decode cX1_characterAt 12 = .ok (.iload_n 1, 1) := by decide +kernel
theorem dX1_characterAt_13 : decode cX1_characterAt 13 = .ok (.bipush 80, 2) := by decide +kernel
theorem dX1_characterAt_15 : decode cX1_characterAt 15 = .ok (.if_icmp .ge 7, 3) := by decide +kernel
theorem dX1_characterAt_18 : decode cX1_characterAt 18 = .ok (.iconst 1, 1) := by decide +kernel
theorem dX1_characterAt_19 : decode cX1_characterAt 19 = .ok (.goto 4, 3) := by decide +kernel
theorem dX1_characterAt_22 : decode cX1_characterAt 22 = .ok (.iconst 0, 1) := by decide +kernel
theorem dX1_characterAt_23 : decode cX1_characterAt 23 = .ok (.istore_n 2, 1) := by decide +kernel
theorem dX1_characterAt_24 : decode cX1_characterAt 24 = .ok (.iload_n 2, 1) := by decide +kernel
theorem dX1_characterAt_25 : decode cX1_characterAt 25 = .ok (.ifCond .eq 12, 3) := by decide +kernel
theorem dX1_characterAt_28 : decode cX1_characterAt 28 = .ok (.aload_n 0, 1) := by decide +kernel
theorem dX1_characterAt_29 : decode cX1_characterAt 29 = .ok (.getfield 9, 3) := by decide +kernel
theorem dX1_characterAt_32 : decode cX1_characterAt 32 = .ok (.iload_n 1, 1) := by decide +kernel
theorem dX1_characterAt_33 : decode cX1_characterAt 33 = .ok (.iaload, 1) := by decide +kernel
theorem dX1_characterAt_34 : decode cX1_characterAt 34 = .ok (.goto 5, 3) := by decide +kernel
theorem dX1_characterAt_37 : decode cX1_characterAt 37 = .ok (.bipush (-9), 2) := by decide +kernel
theorem dX1_characterAt_39 : decode cX1_characterAt 39 = .ok (.ireturn, 1) := by decide +kernel
theorem dX1_takeFrom_0 : decode cX1_takeFrom 0 = .ok (.aload_n 0, 1) := by decide +kernel
theorem dX1_takeFrom_1 : decode cX1_takeFrom 1 = .ok (.aload_n 1, 1) := by decide +kernel
theorem dX1_takeFrom_2 : decode cX1_takeFrom 2 = .ok (.getfield 23, 3) := by decide +kernel
theorem dX1_takeFrom_5 : decode cX1_takeFrom 5 = .ok (.putfield 23, 3) := by decide +kernel
theorem dX1_takeFrom_8 : decode cX1_takeFrom 8 = .ok (.aload_n 0, 1) := by decide +kernel
theorem dX1_takeFrom_9 : decode cX1_takeFrom 9 = .ok (.aload_n 1, 1) := by decide +kernel
theorem dX1_takeFrom_10 : decode cX1_takeFrom 10 = .ok (.getfield 15, 3) := by decide +kernel
theorem dX1_takeFrom_13 : decode cX1_takeFrom 13 = .ok (.putfield 15, 3) := by decide +kernel
theorem dX1_takeFrom_16 : decode cX1_takeFrom 16 = .ok (.iconst 0, 1) := by decide +kernel
theorem dX1_takeFrom_17 : decode cX1_takeFrom 17 = .ok (.istore_n 2, 1) := by decide +kernel
theorem dX1_takeFrom_18 : decode cX1_takeFrom 18 = .ok (.iload_n 2, 1) := by decide +kernel
theorem dX1_takeFrom_19 : decode cX1_takeFrom 19 = .ok (.bipush 80, 2) := by decide +kernel
theorem dX1_takeFrom_21 : decode cX1_takeFrom 21 = .ok (.if_icmp .ge 21, 3) := by decide +kernel
theorem dX1_takeFrom_24 : decode cX1_takeFrom 24 = .ok (.aload_n 0, 1) := by decide +kernel
theorem dX1_takeFrom_25 : decode cX1_takeFrom 25 = .ok (.getfield 9, 3) := by decide +kernel
theorem dX1_takeFrom_28 : decode cX1_takeFrom 28 = .ok (.iload_n 2, 1) := by decide +kernel
theorem dX1_takeFrom_29 : decode cX1_takeFrom 29 = .ok (.aload_n 1, 1) := by decide +kernel
theorem dX1_takeFrom_30 : decode cX1_takeFrom 30 = .ok (.getfield 9, 3) := by decide +kernel
theorem dX1_takeFrom_33 : decode cX1_takeFrom 33 = .ok (.iload_n 2, 1) := by decide +kernel
theorem dX1_takeFrom_34 : decode cX1_takeFrom 34 = .ok (.iaload, 1) := by decide +kernel
theorem dX1_takeFrom_35 : decode cX1_takeFrom 35 = .ok (.iastore, 1) := by decide +kernel
theorem dX1_takeFrom_36 : decode cX1_takeFrom 36 = .ok (.iinc 2 1, 3) := by decide +kernel
theorem dX1_takeFrom_39 : decode cX1_takeFrom 39 = .ok (.goto (-21), 3) := by decide +kernel
theorem dX1_takeFrom_42 : decode cX1_takeFrom 42 = .ok (.return_, 1) := by decide +kernel
theorem dX2_init_0 : decode cX2_init 0 = .ok (.aload_n 0, 1) := by decide +kernel
theorem dX2_init_1 : decode cX2_init 1 = .ok (.invokespecial 3, 3) := by decide +kernel
theorem dX2_init_4 : decode cX2_init 4 = .ok (.aload_n 0, 1) := by decide +kernel
theorem dX2_init_5 : decode cX2_init 5 = .ok (.bipush 80, 2) := by decide +kernel
theorem dX2_init_7 : decode cX2_init 7 = .ok (.newarray .int, 2) := by decide +kernel
theorem dX2_init_9 : decode cX2_init 9 = .ok (.putfield 11, 3) := by decide +kernel
theorem dX2_init_12 : decode cX2_init 12 = .ok (.aload_n 0, 1) := by decide +kernel
theorem dX2_init_13 : decode cX2_init 13 = .ok (.bipush 80, 2) := by decide +kernel
theorem dX2_init_15 : decode cX2_init 15 = .ok (.newarray .int, 2) := by decide +kernel
theorem dX2_init_17 : decode cX2_init 17 = .ok (.putfield 15, 3) := by decide +kernel
theorem dX2_init_20 : decode cX2_init 20 = .ok (.aload_n 0, 1) := by decide +kernel
theorem dX2_init_21 : decode cX2_init 21 = .ok (.bipush 80, 2) := by decide +kernel
theorem dX2_init_23 : decode cX2_init 23 = .ok (.newarray .int, 2) := by decide +kernel
theorem dX2_init_25 : decode cX2_init 25 = .ok (.putfield 18, 3) := by decide +kernel
theorem dX2_init_28 : decode cX2_init 28 = .ok (.aload_n 0, 1) := by decide +kernel
theorem dX2_init_29 : decode cX2_init 29 = .ok (.bipush 80, 2) := by decide +kernel
theorem dX2_init_31 : decode cX2_init 31 = .ok (.newarray .int, 2) := by decide +kernel
theorem dX2_init_33 : decode cX2_init 33 = .ok (.putfield 21, 3) := by decide +kernel
theorem dX2_init_36 : decode cX2_init 36 = .ok (.aload_n 0, 1) := by decide +kernel
theorem dX2_init_37 : decode cX2_init 37 = .ok (.bipush 80, 2) := by decide +kernel
theorem dX2_init_39 : decode cX2_init 39 = .ok (.newarray .int, 2) := by decide +kernel
theorem dX2_init_41 : decode cX2_init 41 = .ok (.putfield 24, 3) := by decide +kernel
theorem dX2_init_44 : decode cX2_init 44 = .ok (.return_, 1) := by decide +kernel
theorem dX2_removeAll_0 : decode cX2_removeAll 0 = .ok (.aload_n 0, 1) := by decide +kernel
theorem dX2_removeAll_1 : decode cX2_removeAll 1 = .ok (.iconst 0, 1) := by decide +kernel
theorem dX2_removeAll_2 : decode cX2_removeAll 2 = .ok (.putfield 27, 3) := by decide +kernel
theorem dX2_removeAll_5 : decode cX2_removeAll 5 = .ok (.return_, 1) := by decide +kernel
theorem dX2_add_0 : decode cX2_add 0 = .ok (.aload_n 0, 1) := by decide +kernel
theorem dX2_add_1 : decode cX2_add 1 = .ok (.getfield 27, 3) := by decide +kernel
theorem dX2_add_4 : decode cX2_add 4 = .ok (.bipush 80, 2) := by decide +kernel
theorem dX2_add_6 : decode cX2_add 6 = .ok (.if_icmp .ge 65, 3) := by decide +kernel
theorem dX2_add_9 : decode cX2_add 9 = .ok (.aload_n 0, 1) := by decide +kernel
theorem dX2_add_10 : decode cX2_add 10 = .ok (.getfield 11, 3) := by decide +kernel
theorem dX2_add_13 : decode cX2_add 13 = .ok (.aload_n 0, 1) := by decide +kernel
theorem dX2_add_14 : decode cX2_add 14 = .ok (.getfield 27, 3) := by decide +kernel
theorem dX2_add_17 : decode cX2_add 17 = .ok (.iload_n 1, 1) := by decide +kernel
theorem dX2_add_18 : decode cX2_add 18 = .ok (.iastore, 1) := by decide +kernel
theorem dX2_add_19 : decode cX2_add 19 = .ok (.aload_n 0, 1) := by decide +kernel
theorem dX2_add_20 : decode cX2_add 20 = .ok (.getfield 15, 3) := by decide +kernel
theorem dX2_add_23 : decode cX2_add 23 = .ok (.aload_n 0, 1) := by decide +kernel
theorem dX2_add_24 : decode cX2_add 24 = .ok (.getfield 27, 3) := by decide +kernel
theorem dX2_add_27 : decode cX2_add 27 = .ok (.iload_n 2, 1) := by decide +kernel
theorem dX2_add_28 : decode cX2_add 28 = .ok (.iastore, 1) := by decide +kernel
theorem dX2_add_29 : decode cX2_add 29 = .ok (.aload_n 0, 1) := by decide +kernel
theorem dX2_add_30 : decode cX2_add 30 = .ok (.getfield 18, 3) := by decide +kernel
theorem dX2_add_33 : decode cX2_add 33 = .ok (.aload_n 0, 1) := by decide +kernel
theorem dX2_add_34 : decode cX2_add 34 = .ok (.getfield 27, 3) := by decide +kernel
theorem dX2_add_37 : decode cX2_add 37 = .ok (.iload_n 3, 1) := by decide +kernel
theorem dX2_add_38 : decode cX2_add 38 = .ok (.iastore, 1) := by decide +kernel
theorem dX2_add_39 : decode cX2_add 39 = .ok (.aload_n 0, 1) := by decide +kernel
theorem dX2_add_40 : decode cX2_add 40 = .ok (.getfield 21, 3) := by decide +kernel
theorem dX2_add_43 : decode cX2_add 43 = .ok (.aload_n 0, 1) := by decide +kernel
theorem dX2_add_44 : decode cX2_add 44 = .ok (.getfield 27, 3) := by decide +kernel
theorem dX2_add_47 : decode cX2_add 47 = .ok (.iload 4, 2) := by decide +kernel
theorem dX2_add_49 : decode cX2_add 49 = .ok (.iastore, 1) := by decide +kernel
theorem dX2_add_50 : decode cX2_add 50 = .ok (.aload_n 0, 1) := by decide +kernel
theorem dX2_add_51 : decode cX2_add 51 = .ok (.getfield 24, 3) := by decide +kernel
theorem dX2_add_54 : decode cX2_add 54 = .ok (.aload_n 0, 1) := by decide +kernel
theorem dX2_add_55 : decode cX2_add 55 = .ok (.getfield 27, 3) := by decide +kernel
theorem dX2_add_58 : decode cX2_add 58 = .ok (.iload 5, 2) := by decide +kernel
theorem dX2_add_60 : decode cX2_add 60 = .ok (.iastore, 1) := by decide +kernel
theorem dX2_add_61 : decode cX2_add 61 = .ok (.aload_n 0, 1) := by decide +kernel
theorem dX2_add_62 : decode cX2_add 62 = .ok (.dup, 1) := by decide +kernel
theorem dX2_add_63 : decode cX2_add 63 = .ok (.getfield 27, 3) := by decide +kernel
theorem dX2_add_66 : decode cX2_add 66 = .ok (.iconst 1, 1) := by decide +kernel
theorem dX2_add_67 : decode cX2_add 67 = .ok (.iadd, 1) := by decide +kernel
theorem dX2_add_68 : decode cX2_add 68 = .ok (.putfield 27, 3) := by decide +kernel
theorem dX2_add_71 : decode cX2_add 71 = .ok (.return_, 1) := by decide +kernel
theorem dX2_pieceAt_0 : decode cX2_pieceAt 0 = .ok (.iconst 0, 1) := by decide +kernel
theorem dX2_pieceAt_1 : decode cX2_pieceAt 1 = .ok (.istore_n 3, 1) := by decide +kernel
theorem dX2_pieceAt_2 : decode cX2_pieceAt 2 = .ok (.iload_n 3, 1) := by decide +kernel
theorem dX2_pieceAt_3 : decode cX2_pieceAt 3 = .ok (.aload_n 0, 1) := by decide +kernel
theorem dX2_pieceAt_4 : decode cX2_pieceAt 4 = .ok (.getfield 27, 3) := by decide +kernel
theorem dX2_pieceAt_7 : decode cX2_pieceAt 7 = .ok (.if_icmp .ge 55, 3) := by decide +kernel
theorem dX2_pieceAt_10 : decode cX2_pieceAt 10 = .ok (.iload_n 3, 1) := by decide +kernel
theorem dX2_pieceAt_11 : decode cX2_pieceAt 11 = .ok (.bipush 80, 2) := by decide +kernel
theorem dX2_pieceAt_13 : decode cX2_pieceAt 13 = .ok (.if_icmp .ge 49, 3) := by decide +kernel
theorem dX2_pieceAt_16 : decode cX2_pieceAt 16 = .ok (.aload_n 0, 1) := by decide +kernel
theorem dX2_pieceAt_17 : decode cX2_pieceAt 17 = .ok (.getfield 11, 3) := by decide +kernel
theorem dX2_pieceAt_20 : decode cX2_pieceAt 20 = .ok (.iload_n 3, 1) := by decide +kernel
theorem dX2_pieceAt_21 : decode cX2_pieceAt 21 = .ok (.iaload, 1) := by decide +kernel
theorem dX2_pieceAt_22 : decode cX2_pieceAt 22 = .ok (.iload_n 1, 1) := by decide +kernel
theorem dX2_pieceAt_23 : decode cX2_pieceAt 23 = .ok (.if_icmp .ne 33, 3) := by decide +kernel
theorem dX2_pieceAt_26 : decode cX2_pieceAt 26 = .ok (.iload_n 2, 1) := by decide +kernel
theorem dX2_pieceAt_27 : decode cX2_pieceAt 27 = .ok (.aload_n 0, 1) := by decide +kernel
theorem dX2_pieceAt_28 : decode cX2_pieceAt 28 = .ok (.getfield 15, 3) := by decide +kernel
theorem dX2_pieceAt_31 : decode cX2_pieceAt 31 = .ok (.iload_n 3, 1) := by decide +kernel
theorem dX2_pieceAt_32 : decode cX2_pieceAt 32 = .ok (.iaload, 1) := by decide +kernel
theorem dX2_pieceAt_33 : decode cX2_pieceAt 33 = .ok (.aload_n 0, 1) := by decide +kernel
theorem dX2_pieceAt_34 : decode cX2_pieceAt 34 = .ok (.getfield 15, 3) := by decide +kernel
theorem dX2_pieceAt_37 : decode cX2_pieceAt 37 = .ok (.iload_n 3, 1) := by decide +kernel
theorem dX2_pieceAt_38 : decode cX2_pieceAt 38 = .ok (.iaload, 1) := by decide +kernel
theorem dX2_pieceAt_39 : decode cX2_pieceAt 39 = .ok (.aload_n 0, 1) := by decide +kernel
theorem dX2_pieceAt_40 : decode cX2_pieceAt 40 = .ok (.getfield 18, 3) := by decide +kernel
theorem dX2_pieceAt_43 : decode cX2_pieceAt 43 = .ok (.iload_n 3, 1) := by decide +kernel
theorem dX2_pieceAt_44 : decode cX2_pieceAt 44 = .ok (.iaload, 1) := by decide +kernel
theorem dX2_pieceAt_45 : decode cX2_pieceAt 45 = .ok (.iadd, 1) := by decide +kernel
theorem dX2_pieceAt_46 : decode cX2_pieceAt 46 = .ok (.iconst 1, 1) := by decide +kernel
theorem dX2_pieceAt_47 : decode cX2_pieceAt 47 = .ok (.isub, 1) := by decide +kernel
theorem dX2_pieceAt_48 : decode cX2_pieceAt 48 = .ok (.invokestatic 31, 3) := by decide +kernel
theorem dX2_pieceAt_51 : decode cX2_pieceAt 51 = .ok (.ifCond .eq 5, 3) := by decide +kernel
theorem dX2_pieceAt_54 : decode cX2_pieceAt 54 = .ok (.iload_n 3, 1) := by decide +kernel
theorem dX2_pieceAt_55 : decode cX2_pieceAt 55 = .ok (.ireturn, 1) := by decide +kernel
theorem dX2_pieceAt_56 : decode cX2_pieceAt 56 = .ok (.iinc 3 1, 3) := by decide +kernel
theorem dX2_pieceAt_59 : decode cX2_pieceAt 59 = .ok (.goto (-57), 3) := by decide +kernel
theorem dX2_pieceAt_62 : decode cX2_pieceAt 62 = .ok (.iconst (-1), 1) := by decide +kernel
theorem dX2_pieceAt_63 : decode cX2_pieceAt 63 = .ok (.ireturn, 1) := by decide +kernel
theorem dX2_filled_0 : decode cX2_filled 0 = .ok (.iconst 0, 1) := by decide +kernel
theorem dX2_filled_1 : decode cX2_filled 1 = .ok (.istore_n 2, 1) := by decide +kernel
theorem dX2_filled_2 : decode cX2_filled 2 = .ok (.iconst 0, 1) := by decide +kernel
theorem dX2_filled_3 : decode cX2_filled 3 = .ok (.istore_n 3, 1) := by decide +kernel
theorem dX2_filled_4 : decode cX2_filled 4 = .ok (.iload_n 3, 1) := by decide +kernel
theorem dX2_filled_5 : decode cX2_filled 5 = .ok (.aload_n 0, 1) := by decide +kernel
theorem dX2_filled_6 : decode cX2_filled 6 = .ok (.getfield 27, 3) := by decide +kernel
theorem dX2_filled_9 : decode cX2_filled 9 = .ok (.if_icmp .ge 42, 3) := by decide +kernel
theorem dX2_filled_12 : decode cX2_filled 12 = .ok (.iload_n 3, 1) := by decide +kernel
theorem dX2_filled_13 : decode cX2_filled 13 = .ok (.bipush 80, 2) := by decide +kernel
theorem dX2_filled_15 : decode cX2_filled 15 = .ok (.if_icmp .ge 36, 3) := by decide +kernel
theorem dX2_filled_18 : decode cX2_filled 18 = .ok (.iload_n 1, 1) := by decide +kernel
theorem dX2_filled_19 : decode cX2_filled 19 = .ok (.aload_n 0, 1) := by decide +kernel
theorem dX2_filled_20 : decode cX2_filled 20 = .ok (.getfield 21, 3) := by decide +kernel
theorem dX2_filled_23 : decode cX2_filled 23 = .ok (.iload_n 3, 1) := by decide +kernel
theorem dX2_filled_24 : decode cX2_filled 24 = .ok (.iaload, 1) := by decide +kernel
theorem dX2_filled_25 : decode cX2_filled 25 = .ok (.ifCond .eq 7, 3) := by decide +kernel
theorem dX2_filled_28 : decode cX2_filled 28 = .ok (.iconst 1, 1) := by decide +kernel
theorem dX2_filled_29 : decode cX2_filled 29 = .ok (.goto 4, 3) := by decide +kernel
theorem dX2_filled_32 : decode cX2_filled 32 = .ok (.iconst 0, 1) := by decide +kernel
theorem dX2_filled_33 : decode cX2_filled 33 = .ok (.if_icmp .ne 12, 3) := by decide +kernel
theorem dX2_filled_36 : decode cX2_filled 36 = .ok (.iload_n 2, 1) := by decide +kernel
theorem dX2_filled_37 : decode cX2_filled 37 = .ok (.aload_n 0, 1) := by decide +kernel
theorem dX2_filled_38 : decode cX2_filled 38 = .ok (.getfield 18, 3) := by decide +kernel
theorem dX2_filled_41 : decode cX2_filled 41 = .ok (.iload_n 3, 1) := by decide +kernel
theorem dX2_filled_42 : decode cX2_filled 42 = .ok (.iaload, 1) := by decide +kernel
theorem dX2_filled_43 : decode cX2_filled 43 = .ok (.iadd, 1) := by decide +kernel
theorem dX2_filled_44 : decode cX2_filled 44 = .ok (.istore_n 2, 1) := by decide +kernel
theorem dX2_filled_45 : decode cX2_filled 45 = .ok (.iinc 3 1, 3) := by decide +kernel
theorem dX2_filled_48 : decode cX2_filled 48 = .ok (.goto (-44), 3) := by decide +kernel
theorem dX2_filled_51 : decode cX2_filled 51 = .ok (.iload_n 2, 1) := by decide +kernel
theorem dX2_filled_52 : decode cX2_filled 52 = .ok (.ireturn, 1) := by decide +kernel
theorem dX3_init_0 : decode cX3_init 0 = .ok (.aload_n 0, 1) := by decide +kernel
theorem dX3_init_1 : decode cX3_init 1 = .ok (.invokespecial 3, 3) := by decide +kernel
theorem dX3_init_4 : decode cX3_init 4 = .ok (.aload_n 0, 1) := by decide +kernel
theorem dX3_init_5 : decode cX3_init 5 = .ok (.bipush 40, 2) := by decide +kernel
theorem dX3_init_7 : decode cX3_init 7 = .ok (.putfield 9, 3) := by decide +kernel
theorem dX3_init_10 : decode cX3_init 10 = .ok (.aload_n 0, 1) := by decide +kernel
theorem dX3_init_11 : decode cX3_init 11 = .ok (.bipush 8, 2) := by decide +kernel
theorem dX3_init_13 : decode cX3_init 13 = .ok (.putfield 15, 3) := by decide +kernel
theorem dX3_init_16 : decode cX3_init 16 = .ok (.aload_n 0, 1) := by decide +kernel
theorem dX3_init_17 : decode cX3_init 17 = .ok (.iconst 4, 1) := by decide +kernel
theorem dX3_init_18 : decode cX3_init 18 = .ok (.anewarray 18, 3) := by decide +kernel
theorem dX3_init_21 : decode cX3_init 21 = .ok (.putfield 20, 3) := by decide +kernel
theorem dX3_init_24 : decode cX3_init 24 = .ok (.aload_n 0, 1) := by decide +kernel
theorem dX3_init_25 : decode cX3_init 25 = .ok (.bipush 8, 2) := by decide +kernel
theorem dX3_init_27 : decode cX3_init 27 = .ok (.anewarray 24, 3) := by decide +kernel
theorem dX3_init_30 : decode cX3_init 30 = .ok (.putfield 26, 3) := by decide +kernel
theorem dX3_init_33 : decode cX3_init 33 = .ok (.iconst 0, 1) := by decide +kernel
theorem dX3_init_34 : decode cX3_init 34 = .ok (.istore_n 1, 1) := by decide +kernel
theorem dX3_init_35 : decode cX3_init 35 = .ok (.iload_n 1, 1) := by decide +kernel
theorem dX3_init_36 : decode cX3_init 36 = .ok (.iconst 4, 1) := by decide +kernel
theorem dX3_init_37 : decode cX3_init 37 = .ok (.if_icmp .ge 22, 3) := by decide +kernel
theorem dX3_init_40 : decode cX3_init 40 = .ok (.aload_n 0, 1) := by decide +kernel
theorem dX3_init_41 : decode cX3_init 41 = .ok (.getfield 20, 3) := by decide +kernel
theorem dX3_init_44 : decode cX3_init 44 = .ok (.iload_n 1, 1) := by decide +kernel
theorem dX3_init_45 : decode cX3_init 45 = .ok (.new 18, 3) := by decide +kernel
theorem dX3_init_48 : decode cX3_init 48 = .ok (.dup, 1) := by decide +kernel
theorem dX3_init_49 : decode cX3_init 49 = .ok (.invokespecial 30, 3) := by decide +kernel
theorem dX3_init_52 : decode cX3_init 52 = .ok (.aastore, 1) := by decide +kernel
theorem dX3_init_53 : decode cX3_init 53 = .ok (.iinc 1 1, 3) := by decide +kernel
theorem dX3_init_56 : decode cX3_init 56 = .ok (.goto (-21), 3) := by decide +kernel
theorem dX3_init_59 : decode cX3_init 59 = .ok (.iconst 0, 1) := by decide +kernel
theorem dX3_init_60 : decode cX3_init 60 = .ok (.istore_n 1, 1) := by decide +kernel
theorem dX3_init_61 : decode cX3_init 61 = .ok (.iload_n 1, 1) := by decide +kernel
theorem dX3_init_62 : decode cX3_init 62 = .ok (.bipush 8, 2) := by decide +kernel
theorem dX3_init_64 : decode cX3_init 64 = .ok (.if_icmp .ge 22, 3) := by decide +kernel
theorem dX3_init_67 : decode cX3_init 67 = .ok (.aload_n 0, 1) := by decide +kernel
theorem dX3_init_68 : decode cX3_init 68 = .ok (.getfield 26, 3) := by decide +kernel
theorem dX3_init_71 : decode cX3_init 71 = .ok (.iload_n 1, 1) := by decide +kernel
theorem dX3_init_72 : decode cX3_init 72 = .ok (.new 24, 3) := by decide +kernel
theorem dX3_init_75 : decode cX3_init 75 = .ok (.dup, 1) := by decide +kernel
theorem dX3_init_76 : decode cX3_init 76 = .ok (.invokespecial 31, 3) := by decide +kernel
theorem dX3_init_79 : decode cX3_init 79 = .ok (.aastore, 1) := by decide +kernel
theorem dX3_init_80 : decode cX3_init 80 = .ok (.iinc 1 1, 3) := by decide +kernel
theorem dX3_init_83 : decode cX3_init 83 = .ok (.goto (-22), 3) := by decide +kernel
theorem dX3_init_86 : decode cX3_init 86 = .ok (.return_, 1) := by decide +kernel
theorem dX3_takeAllOf_0 : decode cX3_takeAllOf 0 = .ok (.aload_n 0, 1) := by decide +kernel
theorem dX3_takeAllOf_1 : decode cX3_takeAllOf 1 = .ok (.aload_n 1, 1) := by decide +kernel
theorem dX3_takeAllOf_2 : decode cX3_takeAllOf 2 = .ok (.getfield 9, 3) := by decide +kernel
theorem dX3_takeAllOf_5 : decode cX3_takeAllOf 5 = .ok (.putfield 9, 3) := by decide +kernel
theorem dX3_takeAllOf_8 : decode cX3_takeAllOf 8 = .ok (.aload_n 0, 1) := by decide +kernel
theorem dX3_takeAllOf_9 : decode cX3_takeAllOf 9 = .ok (.aload_n 1, 1) := by decide +kernel
theorem dX3_takeAllOf_10 : decode cX3_takeAllOf 10 = .ok (.getfield 15, 3) := by decide +kernel
theorem dX3_takeAllOf_13 : decode cX3_takeAllOf 13 = .ok (.putfield 15, 3) := by decide +kernel
theorem dX3_takeAllOf_16 : decode cX3_takeAllOf 16 = .ok (.aload_n 0, 1) := by decide +kernel
theorem dX3_takeAllOf_17 : decode cX3_takeAllOf 17 = .ok (.aload_n 1, 1) := by decide +kernel
theorem dX3_takeAllOf_18 : decode cX3_takeAllOf 18 = .ok (.getfield 32, 3) := by decide +kernel
theorem dX3_takeAllOf_21 : decode cX3_takeAllOf 21 = .ok (.putfield 32, 3) := by decide +kernel
theorem dX3_takeAllOf_24 : decode cX3_takeAllOf 24 = .ok (.iconst 0, 1) := by decide +kernel
theorem dX3_takeAllOf_25 : decode cX3_takeAllOf 25 = .ok (.istore_n 2, 1) := by decide +kernel
theorem dX3_takeAllOf_26 : decode cX3_takeAllOf 26 = .ok (.iload_n 2, 1) := by decide +kernel
theorem dX3_takeAllOf_27 : decode cX3_takeAllOf 27 = .ok (.iconst 4, 1) := by decide +kernel
theorem dX3_takeAllOf_28 : decode cX3_takeAllOf 28 = .ok (.if_icmp .ge 60, 3) := by decide +kernel
theorem dX3_takeAllOf_31 : decode cX3_takeAllOf 31 = .ok (.aload_n 0, 1) := by decide +kernel
theorem dX3_takeAllOf_32 : decode cX3_takeAllOf 32 = .ok (.getfield 20, 3) := by decide +kernel
theorem dX3_takeAllOf_35 : decode cX3_takeAllOf 35 = .ok (.iload_n 2, 1) := by decide +kernel
theorem dX3_takeAllOf_36 : decode cX3_takeAllOf 36 = .ok (.aaload, 1) := by decide +kernel
theorem dX3_takeAllOf_37 : decode cX3_takeAllOf 37 = .ok (.aload_n 1, 1) := by decide +kernel
theorem dX3_takeAllOf_38 : decode cX3_takeAllOf 38 = .ok (.getfield 20, 3) := by decide +kernel
theorem dX3_takeAllOf_41 : decode cX3_takeAllOf 41 = .ok (.iload_n 2, 1) := by decide +kernel
theorem dX3_takeAllOf_42 : decode cX3_takeAllOf 42 = .ok (.aaload, 1) := by decide +kernel
theorem dX3_takeAllOf_43 : decode cX3_takeAllOf 43 = .ok (.getfield 35, 3) := by decide +kernel
theorem dX3_takeAllOf_46 : decode cX3_takeAllOf 46 = .ok (.putfield 35, 3) := by decide +kernel
theorem dX3_takeAllOf_49 : decode cX3_takeAllOf 49 = .ok (.aload_n 0, 1) := by decide +kernel
theorem dX3_takeAllOf_50 : decode cX3_takeAllOf 50 = .ok (.getfield 20, 3) := by decide +kernel
theorem dX3_takeAllOf_53 : decode cX3_takeAllOf 53 = .ok (.iload_n 2, 1) := by decide +kernel
theorem dX3_takeAllOf_54 : decode cX3_takeAllOf 54 = .ok (.aaload, 1) := by decide +kernel
theorem dX3_takeAllOf_55 : decode cX3_takeAllOf 55 = .ok (.aload_n 1, 1) := by decide +kernel
theorem dX3_takeAllOf_56 : decode cX3_takeAllOf 56 = .ok (.getfield 20, 3) := by decide +kernel
theorem dX3_takeAllOf_59 : decode cX3_takeAllOf 59 = .ok (.iload_n 2, 1) := by decide +kernel
theorem dX3_takeAllOf_60 : decode cX3_takeAllOf 60 = .ok (.aaload, 1) := by decide +kernel
theorem dX3_takeAllOf_61 : decode cX3_takeAllOf 61 = .ok (.getfield 38, 3) := by decide +kernel
theorem dX3_takeAllOf_64 : decode cX3_takeAllOf 64 = .ok (.putfield 38, 3) := by decide +kernel
theorem dX3_takeAllOf_67 : decode cX3_takeAllOf 67 = .ok (.aload_n 0, 1) := by decide +kernel
theorem dX3_takeAllOf_68 : decode cX3_takeAllOf 68 = .ok (.getfield 20, 3) := by decide +kernel
theorem dX3_takeAllOf_71 : decode cX3_takeAllOf 71 = .ok (.iload_n 2, 1) := by decide +kernel
theorem dX3_takeAllOf_72 : decode cX3_takeAllOf 72 = .ok (.aaload, 1) := by decide +kernel
theorem dX3_takeAllOf_73 : decode cX3_takeAllOf 73 = .ok (.aload_n 1, 1) := by decide +kernel
theorem dX3_takeAllOf_74 : decode cX3_takeAllOf 74 = .ok (.getfield 20, 3) := by decide +kernel
theorem dX3_takeAllOf_77 : decode cX3_takeAllOf 77 = .ok (.iload_n 2, 1) := by decide +kernel
theorem dX3_takeAllOf_78 : decode cX3_takeAllOf 78 = .ok (.aaload, 1) := by decide +kernel
theorem dX3_takeAllOf_79 : decode cX3_takeAllOf 79 = .ok (.invokevirtual 41, 3) := by decide +kernel
theorem dX3_takeAllOf_82 : decode cX3_takeAllOf 82 = .ok (.iinc 2 1, 3) := by decide +kernel
theorem dX3_takeAllOf_85 : decode cX3_takeAllOf 85 = .ok (.goto (-59), 3) := by decide +kernel
theorem dX3_takeAllOf_88 : decode cX3_takeAllOf 88 = .ok (.iconst 0, 1) := by decide +kernel
theorem dX3_takeAllOf_89 : decode cX3_takeAllOf 89 = .ok (.istore_n 2, 1) := by decide +kernel
theorem dX3_takeAllOf_90 : decode cX3_takeAllOf 90 = .ok (.iload_n 2, 1) := by decide +kernel
theorem dX3_takeAllOf_91 : decode cX3_takeAllOf 91 = .ok (.bipush 8, 2) := by decide +kernel
theorem dX3_takeAllOf_93 : decode cX3_takeAllOf 93 = .ok (.if_icmp .ge 24, 3) := by decide +kernel
theorem dX3_takeAllOf_96 : decode cX3_takeAllOf 96 = .ok (.aload_n 0, 1) := by decide +kernel
theorem dX3_takeAllOf_97 : decode cX3_takeAllOf 97 = .ok (.getfield 26, 3) := by decide +kernel
theorem dX3_takeAllOf_100 : decode cX3_takeAllOf 100 = .ok (.iload_n 2, 1) := by decide +kernel
theorem dX3_takeAllOf_101 : decode cX3_takeAllOf 101 = .ok (.aaload, 1) := by decide +kernel
theorem dX3_takeAllOf_102 : decode cX3_takeAllOf 102 = .ok (.aload_n 1, 1) := by decide +kernel
theorem dX3_takeAllOf_103 : decode cX3_takeAllOf 103 = .ok (.getfield 26, 3) := by decide +kernel
theorem dX3_takeAllOf_106 : decode cX3_takeAllOf 106 = .ok (.iload_n 2, 1) := by decide +kernel
theorem dX3_takeAllOf_107 : decode cX3_takeAllOf 107 = .ok (.aaload, 1) := by decide +kernel
theorem dX3_takeAllOf_108 : decode cX3_takeAllOf 108 = .ok (.invokevirtual 45, 3) := by decide +kernel
theorem dX3_takeAllOf_111 : decode cX3_takeAllOf 111 = .ok (.iinc 2 1, 3) := by decide +kernel
theorem dX3_takeAllOf_114 : decode cX3_takeAllOf 114 = .ok (.goto (-24), 3) := by decide +kernel
theorem dX3_takeAllOf_117 : decode cX3_takeAllOf 117 = .ok (.return_, 1) := by decide +kernel
theorem dX4_init_0 : decode cX4_init 0 = .ok (.aload_n 0, 1) := by decide +kernel
theorem dX4_init_1 : decode cX4_init 1 = .ok (.invokespecial 3, 3) := by decide +kernel
theorem dX4_init_4 : decode cX4_init 4 = .ok (.aload_n 0, 1) := by decide +kernel
theorem dX4_init_5 : decode cX4_init 5 = .ok (.new 9, 3) := by decide +kernel
theorem dX4_init_8 : decode cX4_init 8 = .ok (.dup, 1) := by decide +kernel
theorem dX4_init_9 : decode cX4_init 9 = .ok (.invokespecial 11, 3) := by decide +kernel
theorem dX4_init_12 : decode cX4_init 12 = .ok (.putfield 12, 3) := by decide +kernel
theorem dX4_init_15 : decode cX4_init 15 = .ok (.aload_n 0, 1) := by decide +kernel
theorem dX4_init_16 : decode cX4_init 16 = .ok (.iconst 0, 1) := by decide +kernel
theorem dX4_init_17 : decode cX4_init 17 = .ok (.newarray .int, 2) := by decide +kernel
theorem dX4_init_19 : decode cX4_init 19 = .ok (.putfield 18, 3) := by decide +kernel
theorem dX4_init_22 : decode cX4_init 22 = .ok (.return_, 1) := by decide +kernel
theorem dX5_init_0 : decode cX5_init 0 = .ok (.aload_n 0, 1) := by decide +kernel
theorem dX5_init_1 : decode cX5_init 1 = .ok (.invokespecial 3, 3) := by decide +kernel
theorem dX5_init_4 : decode cX5_init 4 = .ok (.aload_n 0, 1) := by decide +kernel
theorem dX5_init_5 : decode cX5_init 5 = .ok (.iconst 4, 1) := by decide +kernel
theorem dX5_init_6 : decode cX5_init 6 = .ok (.putfield 9, 3) := by decide +kernel
theorem dX5_init_9 : decode cX5_init 9 = .ok (.aload_n 0, 1) := by decide +kernel
theorem dX5_init_10 : decode cX5_init 10 = .ok (.bipush 81, 2) := by decide +kernel
theorem dX5_init_12 : decode cX5_init 12 = .ok (.newarray .int, 2) := by decide +kernel
theorem dX5_init_14 : decode cX5_init 14 = .ok (.putfield 15, 3) := by decide +kernel
theorem dX5_init_17 : decode cX5_init 17 = .ok (.return_, 1) := by decide +kernel
theorem dX5_hasStop_0 : decode cX5_hasStop 0 = .ok (.iload_n 1, 1) := by decide +kernel
theorem dX5_hasStop_1 : decode cX5_hasStop 1 = .ok (.iconst 1, 1) := by decide +kernel
theorem dX5_hasStop_2 : decode cX5_hasStop 2 = .ok (.if_icmp .lt 22, 3) := by decide +kernel
theorem dX5_hasStop_5 : decode cX5_hasStop 5 = .ok (.iload_n 1, 1) := by decide +kernel
theorem dX5_hasStop_6 : decode cX5_hasStop 6 = .ok (.bipush 80, 2) := by decide +kernel
theorem dX5_hasStop_8 : decode cX5_hasStop 8 = .ok (.if_icmp .gt 16, 3) := by decide +kernel
theorem dX5_hasStop_11 : decode cX5_hasStop 11 = .ok (.aload_n 0, 1) := by decide +kernel
theorem dX5_hasStop_12 : decode cX5_hasStop 12 = .ok (.getfield 15, 3) := by decide +kernel
theorem dX5_hasStop_15 : decode cX5_hasStop 15 = .ok (.iload_n 1, 1) := by decide +kernel
theorem dX5_hasStop_16 : decode cX5_hasStop 16 = .ok (.iaload, 1) := by decide +kernel
theorem dX5_hasStop_17 : decode cX5_hasStop 17 = .ok (.ifCond .eq 7, 3) := by decide +kernel
theorem dX5_hasStop_20 : decode cX5_hasStop 20 = .ok (.iconst 1, 1) := by decide +kernel
theorem dX5_hasStop_21 : decode cX5_hasStop 21 = .ok (.goto 4, 3) := by decide +kernel
theorem dX5_hasStop_24 : decode cX5_hasStop 24 = .ok (.iconst 0, 1) := by decide +kernel
theorem dX5_hasStop_25 : decode cX5_hasStop 25 = .ok (.ireturn, 1) := by decide +kernel
theorem dX5_kindAt_0 : decode cX5_kindAt 0 = .ok (.aload_n 0, 1) := by decide +kernel
theorem dX5_kindAt_1 : decode cX5_kindAt 1 = .ok (.iload_n 1, 1) := by decide +kernel
theorem dX5_kindAt_2 : decode cX5_kindAt 2 = .ok (.invokevirtual 19, 3) := by decide +kernel
theorem dX5_kindAt_5 : decode cX5_kindAt 5 = .ok (.ifCond .eq 16, 3) := by decide +kernel
theorem dX5_kindAt_8 : decode cX5_kindAt 8 = .ok (.aload_n 0, 1) := by decide +kernel
theorem dX5_kindAt_9 : decode cX5_kindAt 9 = .ok (.getfield 15, 3) := by decide +kernel
theorem dX5_kindAt_12 : decode cX5_kindAt 12 = .ok (.iload_n 1, 1) := by decide +kernel
theorem dX5_kindAt_13 : decode cX5_kindAt 13 = .ok (.iaload, 1) := by decide +kernel
theorem dX5_kindAt_14 : decode cX5_kindAt 14 = .ok (.iconst 1, 1) := by decide +kernel
theorem dX5_kindAt_15 : decode cX5_kindAt 15 = .ok (.isub, 1) := by decide +kernel
theorem dX5_kindAt_16 : decode cX5_kindAt 16 = .ok (.iconst 4, 1) := by decide +kernel
theorem dX5_kindAt_17 : decode cX5_kindAt 17 = .ok (.idiv, 1) := by decide +kernel
theorem dX5_kindAt_18 : decode cX5_kindAt 18 = .ok (.goto 5, 3) := by decide +kernel
theorem dX5_kindAt_21 : decode cX5_kindAt 21 = .ok (.bipush (-9), 2) := by decide +kernel
theorem dX5_kindAt_23 : decode cX5_kindAt 23 = .ok (.ireturn, 1) := by decide +kernel
theorem dX5_leaderAt_0 : decode cX5_leaderAt 0 = .ok (.aload_n 0, 1) := by decide +kernel
theorem dX5_leaderAt_1 : decode cX5_leaderAt 1 = .ok (.iload_n 1, 1) := by decide +kernel
theorem dX5_leaderAt_2 : decode cX5_leaderAt 2 = .ok (.invokevirtual 19, 3) := by decide +kernel
theorem dX5_leaderAt_5 : decode cX5_leaderAt 5 = .ok (.ifCond .eq 16, 3) := by decide +kernel
theorem dX5_leaderAt_8 : decode cX5_leaderAt 8 = .ok (.aload_n 0, 1) := by decide +kernel
theorem dX5_leaderAt_9 : decode cX5_leaderAt 9 = .ok (.getfield 15, 3) := by decide +kernel
theorem dX5_leaderAt_12 : decode cX5_leaderAt 12 = .ok (.iload_n 1, 1) := by decide +kernel
theorem dX5_leaderAt_13 : decode cX5_leaderAt 13 = .ok (.iaload, 1) := by decide +kernel
theorem dX5_leaderAt_14 : decode cX5_leaderAt 14 = .ok (.iconst 1, 1) := by decide +kernel
theorem dX5_leaderAt_15 : decode cX5_leaderAt 15 = .ok (.isub, 1) := by decide +kernel
theorem dX5_leaderAt_16 : decode cX5_leaderAt 16 = .ok (.iconst 4, 1) := by decide +kernel
theorem dX5_leaderAt_17 : decode cX5_leaderAt 17 = .ok (.irem, 1) := by decide +kernel
theorem dX5_leaderAt_18 : decode cX5_leaderAt 18 = .ok (.goto 5, 3) := by decide +kernel
theorem dX5_leaderAt_21 : decode cX5_leaderAt 21 = .ok (.bipush (-9), 2) := by decide +kernel
theorem dX5_leaderAt_23 : decode cX5_leaderAt 23 = .ok (.ireturn, 1) := by decide +kernel
theorem dX5_putStop_0 : decode cX5_putStop 0 = .ok (.iload_n 1, 1) := by decide +kernel
theorem dX5_putStop_1 : decode cX5_putStop 1 = .ok (.iconst 1, 1) := by decide +kernel
theorem dX5_putStop_2 : decode cX5_putStop 2 = .ok (.bipush 80, 2) := by decide +kernel
theorem dX5_putStop_4 : decode cX5_putStop 4 = .ok (.invokestatic 23, 3) := by decide +kernel
theorem dX5_putStop_7 : decode cX5_putStop 7 = .ok (.ifCond .eq 16, 3) := by decide +kernel
theorem dX5_putStop_10 : decode cX5_putStop 10 = .ok (.aload_n 0, 1) := by decide +kernel
theorem dX5_putStop_11 : decode cX5_putStop 11 = .ok (.getfield 15, 3) := by decide +kernel
theorem dX5_putStop_14 : decode cX5_putStop 14 = .ok (.iload_n 1, 1) := by decide +kernel
theorem dX5_putStop_15 : decode cX5_putStop 15 = .ok (.iconst 1, 1) := by decide +kernel
theorem dX5_putStop_16 : decode cX5_putStop 16 = .ok (.iload_n 2, 1) := by decide +kernel
theorem dX5_putStop_17 : decode cX5_putStop 17 = .ok (.iconst 4, 1) := by decide +kernel
theorem dX5_putStop_18 : decode cX5_putStop 18 = .ok (.imul, 1) := by decide +kernel
theorem dX5_putStop_19 : decode cX5_putStop 19 = .ok (.iadd, 1) := by decide +kernel
theorem dX5_putStop_20 : decode cX5_putStop 20 = .ok (.iload_n 3, 1) := by decide +kernel
theorem dX5_putStop_21 : decode cX5_putStop 21 = .ok (.iadd, 1) := by decide +kernel
theorem dX5_putStop_22 : decode cX5_putStop 22 = .ok (.iastore, 1) := by decide +kernel
theorem dX5_putStop_23 : decode cX5_putStop 23 = .ok (.return_, 1) := by decide +kernel
theorem dX5_dropStop_0 : decode cX5_dropStop 0 = .ok (.iload_n 1, 1) := by decide +kernel
theorem dX5_dropStop_1 : decode cX5_dropStop 1 = .ok (.iconst 1, 1) := by decide +kernel
theorem dX5_dropStop_2 : decode cX5_dropStop 2 = .ok (.bipush 80, 2) := by decide +kernel
theorem dX5_dropStop_4 : decode cX5_dropStop 4 = .ok (.invokestatic 23, 3) := by decide +kernel
theorem dX5_dropStop_7 : decode cX5_dropStop 7 = .ok (.ifCond .eq 10, 3) := by decide +kernel
theorem dX5_dropStop_10 : decode cX5_dropStop 10 = .ok (.aload_n 0, 1) := by decide +kernel
theorem dX5_dropStop_11 : decode cX5_dropStop 11 = .ok (.getfield 15, 3) := by decide +kernel
theorem dX5_dropStop_14 : decode cX5_dropStop 14 = .ok (.iload_n 1, 1) := by decide +kernel
theorem dX5_dropStop_15 : decode cX5_dropStop 15 = .ok (.iconst 0, 1) := by decide +kernel
theorem dX5_dropStop_16 : decode cX5_dropStop 16 = .ok (.iastore, 1) := by decide +kernel
theorem dX5_dropStop_17 : decode cX5_dropStop 17 = .ok (.return_, 1) := by decide +kernel
theorem dX5_takeStopsOf_0 : decode cX5_takeStopsOf 0 = .ok (.iconst 1, 1) := by decide +kernel
theorem dX5_takeStopsOf_1 : decode cX5_takeStopsOf 1 = .ok (.istore_n 2, 1) := by decide +kernel
theorem dX5_takeStopsOf_2 : decode cX5_takeStopsOf 2 = .ok (.iload_n 2, 1) := by decide +kernel
theorem dX5_takeStopsOf_3 : decode cX5_takeStopsOf 3 = .ok (.bipush 80, 2) := by decide +kernel
theorem dX5_takeStopsOf_5 : decode cX5_takeStopsOf 5 = .ok (.if_icmp .gt 21, 3) := by decide +kernel
theorem dX5_takeStopsOf_8 : decode cX5_takeStopsOf 8 = .ok (.aload_n 0, 1) := by decide +kernel
theorem dX5_takeStopsOf_9 : decode cX5_takeStopsOf 9 = .ok (.getfield 15, 3) := by decide +kernel
theorem dX5_takeStopsOf_12 : decode cX5_takeStopsOf 12 = .ok (.iload_n 2, 1) := by decide +kernel
theorem dX5_takeStopsOf_13 : decode cX5_takeStopsOf 13 = .ok (.aload_n 1, 1) := by decide +kernel
theorem dX5_takeStopsOf_14 : decode cX5_takeStopsOf 14 = .ok (.getfield 15, 3) := by decide +kernel
theorem dX5_takeStopsOf_17 : decode cX5_takeStopsOf 17 = .ok (.iload_n 2, 1) := by decide +kernel
theorem dX5_takeStopsOf_18 : decode cX5_takeStopsOf 18 = .ok (.iaload, 1) := by decide +kernel
theorem dX5_takeStopsOf_19 : decode cX5_takeStopsOf 19 = .ok (.iastore, 1) := by decide +kernel
theorem dX5_takeStopsOf_20 : decode cX5_takeStopsOf 20 = .ok (.iinc 2 1, 3) := by decide +kernel
theorem dX5_takeStopsOf_23 : decode cX5_takeStopsOf 23 = .ok (.goto (-21), 3) := by decide +kernel
theorem dX5_takeStopsOf_26 : decode cX5_takeStopsOf 26 = .ok (.return_, 1) := by decide +kernel
theorem dX5_stopsBefore_0 : decode cX5_stopsBefore 0 = .ok (.iconst 0, 1) := by decide +kernel
theorem dX5_stopsBefore_1 : decode cX5_stopsBefore 1 = .ok (.istore_n 2, 1) := by decide +kernel
theorem dX5_stopsBefore_2 : decode cX5_stopsBefore 2 = .ok (.iconst 1, 1) := by decide +kernel
theorem dX5_stopsBefore_3 : decode cX5_stopsBefore 3 = .ok (.istore_n 3, 1) := by decide +kernel
theorem dX5_stopsBefore_4 : decode cX5_stopsBefore 4 = .ok (.iload_n 3, 1) := by decide +kernel
theorem dX5_stopsBefore_5 : decode cX5_stopsBefore 5 = .ok (.bipush 80, 2) := by decide +kernel
theorem dX5_stopsBefore_7 : decode cX5_stopsBefore 7 = .ok (.if_icmp .gt 26, 3) := by decide +kernel
theorem dX5_stopsBefore_10 : decode cX5_stopsBefore 10 = .ok (.iload_n 3, 1) := by decide +kernel
theorem dX5_stopsBefore_11 : decode cX5_stopsBefore 11 = .ok (.iload_n 1, 1) := by decide +kernel
theorem dX5_stopsBefore_12 : decode cX5_stopsBefore 12 = .ok (.if_icmp .ge 21, 3) := by decide +kernel
theorem dX5_stopsBefore_15 : decode cX5_stopsBefore 15 = .ok (.aload_n 0, 1) := by decide +kernel
theorem dX5_stopsBefore_16 : decode cX5_stopsBefore 16 = .ok (.getfield 15, 3) := by decide +kernel
theorem dX5_stopsBefore_19 : decode cX5_stopsBefore 19 = .ok (.iload_n 3, 1) := by decide +kernel
theorem dX5_stopsBefore_20 : decode cX5_stopsBefore 20 = .ok (.iaload, 1) := by decide +kernel
theorem dX5_stopsBefore_21 : decode cX5_stopsBefore 21 = .ok (.ifCond .eq 6, 3) := by decide +kernel
theorem dX5_stopsBefore_24 : decode cX5_stopsBefore 24 = .ok (.iinc 2 1, 3) := by decide +kernel
theorem dX5_stopsBefore_27 : decode cX5_stopsBefore 27 = .ok (.iinc 3 1, 3) := by decide +kernel
theorem dX5_stopsBefore_30 : decode cX5_stopsBefore 30 = .ok (.goto (-26), 3) := by decide +kernel
theorem dX5_stopsBefore_33 : decode cX5_stopsBefore 33 = .ok (.iload_n 2, 1) := by decide +kernel
theorem dX5_stopsBefore_34 : decode cX5_stopsBefore 34 = .ok (.ireturn, 1) := by decide +kernel
theorem dX5_positionOf_0 : decode cX5_positionOf 0 = .ok (.iconst 0, 1) := by decide +kernel
theorem dX5_positionOf_1 : decode cX5_positionOf 1 = .ok (.istore_n 2, 1) := by decide +kernel
theorem dX5_positionOf_2 : decode cX5_positionOf 2 = .ok (.iconst 1, 1) := by decide +kernel
theorem dX5_positionOf_3 : decode cX5_positionOf 3 = .ok (.istore_n 3, 1) := by decide +kernel
theorem dX5_positionOf_4 : decode cX5_positionOf 4 = .ok (.iload_n 3, 1) := by decide +kernel
theorem dX5_positionOf_5 : decode cX5_positionOf 5 = .ok (.bipush 80, 2) := by decide +kernel
theorem dX5_positionOf_7 : decode cX5_positionOf 7 = .ok (.if_icmp .gt 28, 3) := by decide +kernel
theorem dX5_positionOf_10 : decode cX5_positionOf 10 = .ok (.aload_n 0, 1) := by decide +kernel
theorem dX5_positionOf_11 : decode cX5_positionOf 11 = .ok (.getfield 15, 3) := by decide +kernel
theorem dX5_positionOf_14 : decode cX5_positionOf 14 = .ok (.iload_n 3, 1) := by decide +kernel
theorem dX5_positionOf_15 : decode cX5_positionOf 15 = .ok (.iaload, 1) := by decide +kernel
theorem dX5_positionOf_16 : decode cX5_positionOf 16 = .ok (.ifCond .eq 13, 3) := by decide +kernel
theorem dX5_positionOf_19 : decode cX5_positionOf 19 = .ok (.iload_n 2, 1) := by decide +kernel
theorem dX5_positionOf_20 : decode cX5_positionOf 20 = .ok (.iload_n 1, 1) := by decide +kernel
theorem dX5_positionOf_21 : decode cX5_positionOf 21 = .ok (.if_icmp .ne 5, 3) := by decide +kernel
theorem dX5_positionOf_24 : decode cX5_positionOf 24 = .ok (.iload_n 3, 1) := by decide +kernel
theorem dX5_positionOf_25 : decode cX5_positionOf 25 = .ok (.ireturn, 1) := by decide +kernel
theorem dX5_positionOf_26 : decode cX5_positionOf 26 = .ok (.iinc 2 1, 3) := by decide +kernel
theorem dX5_positionOf_29 : decode cX5_positionOf 29 = .ok (.iinc 3 1, 3) := by decide +kernel
theorem dX5_positionOf_32 : decode cX5_positionOf 32 = .ok (.goto (-28), 3) := by decide +kernel
theorem dX5_positionOf_35 : decode cX5_positionOf 35 = .ok (.bipush (-9), 2) := by decide +kernel
theorem dX5_positionOf_37 : decode cX5_positionOf 37 = .ok (.ireturn, 1) := by decide +kernel
theorem dX5_hasTab_0 : decode cX5_hasTab 0 = .ok (.aload_n 0, 1) := by decide +kernel
theorem dX5_hasTab_1 : decode cX5_hasTab 1 = .ok (.iload_n 1, 1) := by decide +kernel
theorem dX5_hasTab_2 : decode cX5_hasTab 2 = .ok (.invokevirtual 19, 3) := by decide +kernel
theorem dX5_hasTab_5 : decode cX5_hasTab 5 = .ok (.ifCond .eq 18, 3) := by decide +kernel
theorem dX5_hasTab_8 : decode cX5_hasTab 8 = .ok (.aload_n 0, 1) := by decide +kernel
theorem dX5_hasTab_9 : decode cX5_hasTab 9 = .ok (.getfield 15, 3) := by decide +kernel
theorem dX5_hasTab_12 : decode cX5_hasTab 12 = .ok (.iload_n 1, 1) := by decide +kernel
theorem dX5_hasTab_13 : decode cX5_hasTab 13 = .ok (.iaload, 1) := by decide +kernel
theorem dX5_hasTab_14 : decode cX5_hasTab 14 = .ok (.bipush 16, 2) := by decide +kernel
theorem dX5_hasTab_16 : decode cX5_hasTab 16 = .ok (.if_icmp .gt 7, 3) := by decide +kernel
theorem dX5_hasTab_19 : decode cX5_hasTab 19 = .ok (.iconst 1, 1) := by decide +kernel
theorem dX5_hasTab_20 : decode cX5_hasTab 20 = .ok (.goto 4, 3) := by decide +kernel
theorem dX5_hasTab_23 : decode cX5_hasTab 23 = .ok (.iconst 0, 1) := by decide +kernel
theorem dX5_hasTab_24 : decode cX5_hasTab 24 = .ok (.ireturn, 1) := by decide +kernel
theorem dX5_lastTab_0 : decode cX5_lastTab 0 = .ok (.bipush 80, 2) := by decide +kernel
theorem dX5_lastTab_2 : decode cX5_lastTab 2 = .ok (.istore_n 1, 1) := by decide +kernel
theorem dX5_lastTab_3 : decode cX5_lastTab 3 = .ok (.iload_n 1, 1) := by decide +kernel
theorem dX5_lastTab_4 : decode cX5_lastTab 4 = .ok (.ifCond .le 19, 3) := by decide +kernel
theorem dX5_lastTab_7 : decode cX5_lastTab 7 = .ok (.aload_n 0, 1) := by decide +kernel
theorem dX5_lastTab_8 : decode cX5_lastTab 8 = .ok (.iload_n 1, 1) := by decide +kernel
theorem dX5_lastTab_9 : decode cX5_lastTab 9 = .ok (.invokevirtual 27, 3) := by decide +kernel
theorem dX5_lastTab_12 : decode cX5_lastTab 12 = .ok (.ifCond .eq 5, 3) := by decide +kernel
theorem dX5_lastTab_15 : decode cX5_lastTab 15 = .ok (.iload_n 1, 1) := by decide +kernel
theorem dX5_lastTab_16 : decode cX5_lastTab 16 = .ok (.ireturn, 1) := by decide +kernel
theorem dX5_lastTab_17 : decode cX5_lastTab 17 = .ok (.iinc 1 (-1), 3) := by decide +kernel
theorem dX5_lastTab_20 : decode cX5_lastTab 20 = .ok (.goto (-17), 3) := by decide +kernel
theorem dX5_lastTab_23 : decode cX5_lastTab 23 = .ok (.iconst 0, 1) := by decide +kernel
theorem dX5_lastTab_24 : decode cX5_lastTab 24 = .ok (.ireturn, 1) := by decide +kernel
theorem dX5_tabBehind_0 : decode cX5_tabBehind 0 = .ok (.iload_n 1, 1) := by decide +kernel
theorem dX5_tabBehind_1 : decode cX5_tabBehind 1 = .ok (.iconst 1, 1) := by decide +kernel
theorem dX5_tabBehind_2 : decode cX5_tabBehind 2 = .ok (.iadd, 1) := by decide +kernel
theorem dX5_tabBehind_3 : decode cX5_tabBehind 3 = .ok (.istore_n 2, 1) := by decide +kernel
theorem dX5_tabBehind_4 : decode cX5_tabBehind 4 = .ok (.iload_n 2, 1) := by decide +kernel
theorem dX5_tabBehind_5 : decode cX5_tabBehind 5 = .ok (.bipush 80, 2) := by decide +kernel
theorem dX5_tabBehind_7 : decode cX5_tabBehind 7 = .ok (.if_icmp .gt 19, 3) := by decide +kernel
theorem dX5_tabBehind_10 : decode cX5_tabBehind 10 = .ok (.aload_n 0, 1) := by decide +kernel
theorem dX5_tabBehind_11 : decode cX5_tabBehind 11 = .ok (.iload_n 2, 1) := by decide +kernel
theorem dX5_tabBehind_12 : decode cX5_tabBehind 12 = .ok (.invokevirtual 27, 3) := by decide +kernel
theorem dX5_tabBehind_15 : decode cX5_tabBehind 15 = .ok (.ifCond .eq 5, 3) := by decide +kernel
theorem dX5_tabBehind_18 : decode cX5_tabBehind 18 = .ok (.iload_n 2, 1) := by decide +kernel
theorem dX5_tabBehind_19 : decode cX5_tabBehind 19 = .ok (.ireturn, 1) := by decide +kernel
theorem dX5_tabBehind_20 : decode cX5_tabBehind 20 = .ok (.iinc 2 1, 3) := by decide +kernel
theorem dX5_tabBehind_23 : decode cX5_tabBehind 23 = .ok (.goto (-19), 3) := by decide +kernel
theorem dX5_tabBehind_26 : decode cX5_tabBehind 26 = .ok (.bipush (-9), 2) := by decide +kernel
theorem dX5_tabBehind_28 : decode cX5_tabBehind 28 = .ok (.ireturn, 1) := by decide +kernel
theorem dX6_init_0 : decode cX6_init 0 = .ok (.aload_n 0, 1) := by decide +kernel
theorem dX6_init_1 : decode cX6_init 1 = .ok (.invokespecial 3, 3) := by decide +kernel
theorem dX6_init_4 : decode cX6_init 4 = .ok (.aload_n 0, 1) := by decide +kernel
theorem dX6_init_5 : decode cX6_init 5 = .ok (.bipush 80, 2) := by decide +kernel
theorem dX6_init_7 : decode cX6_init 7 = .ok (.newarray .int, 2) := by decide +kernel
theorem dX6_init_9 : decode cX6_init 9 = .ok (.putfield 9, 3) := by decide +kernel
theorem dX6_init_12 : decode cX6_init 12 = .ok (.aload_n 0, 1) := by decide +kernel
theorem dX6_init_13 : decode cX6_init 13 = .ok (.bipush 80, 2) := by decide +kernel
theorem dX6_init_15 : decode cX6_init 15 = .ok (.newarray .int, 2) := by decide +kernel
theorem dX6_init_17 : decode cX6_init 17 = .ok (.putfield 15, 3) := by decide +kernel
theorem dX6_init_20 : decode cX6_init 20 = .ok (.aload_n 0, 1) := by decide +kernel
theorem dX6_init_21 : decode cX6_init 21 = .ok (.bipush 80, 2) := by decide +kernel
theorem dX6_init_23 : decode cX6_init 23 = .ok (.newarray .int, 2) := by decide +kernel
theorem dX6_init_25 : decode cX6_init 25 = .ok (.putfield 18, 3) := by decide +kernel
theorem dX6_init_28 : decode cX6_init 28 = .ok (.aload_n 0, 1) := by decide +kernel
theorem dX6_init_29 : decode cX6_init 29 = .ok (.bipush 81, 2) := by decide +kernel
theorem dX6_init_31 : decode cX6_init 31 = .ok (.newarray .int, 2) := by decide +kernel
theorem dX6_init_33 : decode cX6_init 33 = .ok (.putfield 21, 3) := by decide +kernel
theorem dX6_init_36 : decode cX6_init 36 = .ok (.return_, 1) := by decide +kernel
theorem dX6_take_0 : decode cX6_take 0 = .ok (.aload_n 0, 1) := by decide +kernel
theorem dX6_take_1 : decode cX6_take 1 = .ok (.iconst 0, 1) := by decide +kernel
theorem dX6_take_2 : decode cX6_take 2 = .ok (.putfield 24, 3) := by decide +kernel
theorem dX6_take_5 : decode cX6_take 5 = .ok (.aload_n 0, 1) := by decide +kernel
theorem dX6_take_6 : decode cX6_take 6 = .ok (.iconst 0, 1) := by decide +kernel
theorem dX6_take_7 : decode cX6_take 7 = .ok (.putfield 28, 3) := by decide +kernel
theorem dX6_take_10 : decode cX6_take 10 = .ok (.iconst 0, 1) := by decide +kernel
theorem dX6_take_11 : decode cX6_take 11 = .ok (.istore_n 2, 1) := by decide +kernel
theorem dX6_take_12 : decode cX6_take 12 = .ok (.iconst 0, 1) := by decide +kernel
theorem dX6_take_13 : decode cX6_take 13 = .ok (.istore_n 3, 1) := by decide +kernel
theorem dX6_take_14 : decode cX6_take 14 = .ok (.iload_n 3, 1) := by decide +kernel
theorem dX6_take_15 : decode cX6_take 15 = .ok (.aload_n 1, 1) := by decide +kernel
theorem dX6_take_16 : decode cX6_take 16 = .ok (.getfield 31, 3) := by decide +kernel
theorem dX6_take_19 : decode cX6_take 19 = .ok (.if_icmp .ge 90, 3) := by decide +kernel
theorem dX6_take_22 : decode cX6_take 22 = .ok (.iload_n 3, 1) := by decide +kernel
theorem dX6_take_23 : decode cX6_take 23 = .ok (.bipush 80, 2) := by decide +kernel
theorem dX6_take_25 : decode cX6_take 25 = .ok (.if_icmp .ge 84, 3) := by decide +kernel
theorem dX6_take_28 : decode cX6_take 28 = .ok (.aload_n 1, 1) := by decide +kernel
theorem dX6_take_29 : decode cX6_take 29 = .ok (.iload_n 3, 1) := by decide +kernel
theorem dX6_take_30 : decode cX6_take 30 = .ok (.invokevirtual 36, 3) := by decide +kernel
theorem dX6_take_33 : decode cX6_take 33 = .ok (.istore 4, 2) := by decide +kernel
theorem dX6_take_35 : decode cX6_take 35 = .ok (.iload 4, 2) := by decide +kernel
theorem dX6_take_37 : decode cX6_take 37 = .ok (.bipush 32, 2) := by decide +kernel
theorem dX6_take_39 : decode cX6_take 39 = .ok (.if_icmp .eq 10, 3) := by decide +kernel
theorem dX6_take_42 : decode cX6_take 42 = .ok (.iload 4, 2) := by decide +kernel
theorem dX6_take_44 : decode cX6_take 44 = .ok (.bipush 9, 2) := by decide +kernel
theorem dX6_take_46 : decode cX6_take 46 = .ok (.if_icmp .ne 7, 3) := by decide +kernel
theorem dX6_take_49 : decode cX6_take 49 = .ok (.iconst 1, 1) := by decide +kernel
theorem dX6_take_50 : decode cX6_take 50 = .ok (.goto 4, 3) := by decide +kernel
theorem dX6_take_53 : decode cX6_take 53 = .ok (.iconst 0, 1) := by decide +kernel
theorem dX6_take_54 : decode cX6_take 54 = .ok (.istore 5, 2) := by decide +kernel
theorem dX6_take_56 : decode cX6_take 56 = .ok (.iload 5, 2) := by decide +kernel
theorem dX6_take_58 : decode cX6_take 58 = .ok (.ifCond .ne 12, 3) := by decide +kernel
theorem dX6_take_61 : decode cX6_take 61 = .ok (.iload_n 2, 1) := by decide +kernel
theorem dX6_take_62 : decode cX6_take 62 = .ok (.ifCond .ne 8, 3) := by decide +kernel
theorem dX6_take_65 : decode cX6_take 65 = .ok (.aload_n 0, 1) := by decide +kernel
theorem dX6_take_66 : decode cX6_take 66 = .ok (.iload_n 3, 1) := by decide +kernel
theorem dX6_take_67 : decode cX6_take 67 = .ok (.invokevirtual 40, 3) := by decide +kernel
theorem dX6_take_70 : decode cX6_take 70 = .ok (.iload 5, 2) := by decide +kernel
theorem dX6_take_72 : decode cX6_take 72 = .ok (.ifCond .ne 9, 3) := by decide +kernel
theorem dX6_take_75 : decode cX6_take 75 = .ok (.aload_n 0, 1) := by decide +kernel
theorem dX6_take_76 : decode cX6_take 76 = .ok (.iload 4, 2) := by decide +kernel
theorem dX6_take_78 : decode cX6_take 78 = .ok (.invokevirtual 44, 3) := by decide +kernel
theorem dX6_take_81 : decode cX6_take 81 = .ok (.iload 4, 2) := by decide +kernel
theorem dX6_take_83 : decode cX6_take 83 = .ok (.bipush 9, 2) := by decide +kernel
theorem dX6_take_85 : decode cX6_take 85 = .ok (.if_icmp .ne 7, 3) := by decide +kernel
theorem dX6_take_88 : decode cX6_take 88 = .ok (.aload_n 0, 1) := by decide +kernel
theorem dX6_take_89 : decode cX6_take 89 = .ok (.invokevirtual 47, 3) := by decide +kernel
theorem dX6_take_92 : decode cX6_take 92 = .ok (.iload 5, 2) := by decide +kernel
theorem dX6_take_94 : decode cX6_take 94 = .ok (.ifCond .ne 7, 3) := by decide +kernel
theorem dX6_take_97 : decode cX6_take 97 = .ok (.iconst 1, 1) := by decide +kernel
theorem dX6_take_98 : decode cX6_take 98 = .ok (.goto 4, 3) := by decide +kernel
theorem dX6_take_101 : decode cX6_take 101 = .ok (.iconst 0, 1) := by decide +kernel
theorem dX6_take_102 : decode cX6_take 102 = .ok (.istore_n 2, 1) := by decide +kernel
theorem dX6_take_103 : decode cX6_take 103 = .ok (.iinc 3 1, 3) := by decide +kernel
theorem dX6_take_106 : decode cX6_take 106 = .ok (.goto (-92), 3) := by decide +kernel
theorem dX6_take_109 : decode cX6_take 109 = .ok (.aload_n 0, 1) := by decide +kernel
theorem dX6_take_110 : decode cX6_take 110 = .ok (.invokevirtual 47, 3) := by decide +kernel
theorem dX6_take_113 : decode cX6_take 113 = .ok (.return_, 1) := by decide +kernel
theorem dX6_startWord_0 : decode cX6_startWord 0 = .ok (.aload_n 0, 1) := by decide +kernel
theorem dX6_startWord_1 : decode cX6_startWord 1 = .ok (.getfield 28, 3) := by decide +kernel
theorem dX6_startWord_4 : decode cX6_startWord 4 = .ok (.bipush 80, 2) := by decide +kernel
theorem dX6_startWord_6 : decode cX6_startWord 6 = .ok (.if_icmp .ge 43, 3) := by decide +kernel
theorem dX6_startWord_9 : decode cX6_startWord 9 = .ok (.aload_n 0, 1) := by decide +kernel
theorem dX6_startWord_10 : decode cX6_startWord 10 = .ok (.getfield 9, 3) := by decide +kernel
theorem dX6_startWord_13 : decode cX6_startWord 13 = .ok (.aload_n 0, 1) := by decide +kernel
theorem dX6_startWord_14 : decode cX6_startWord 14 = .ok (.getfield 28, 3) := by decide +kernel
theorem dX6_startWord_17 : decode cX6_startWord 17 = .ok (.iload_n 1, 1) := by decide +kernel
theorem dX6_startWord_18 : decode cX6_startWord 18 = .ok (.iastore, 1) := by decide +kernel
theorem dX6_startWord_19 : decode cX6_startWord 19 = .ok (.aload_n 0, 1) := by decide +kernel
theorem dX6_startWord_20 : decode cX6_startWord 20 = .ok (.getfield 15, 3) := by decide +kernel
theorem dX6_startWord_23 : decode cX6_startWord 23 = .ok (.aload_n 0, 1) := by decide +kernel
theorem dX6_startWord_24 : decode cX6_startWord 24 = .ok (.getfield 28, 3) := by decide +kernel
theorem dX6_startWord_27 : decode cX6_startWord 27 = .ok (.iconst 0, 1) := by decide +kernel
theorem dX6_startWord_28 : decode cX6_startWord 28 = .ok (.iastore, 1) := by decide +kernel
theorem dX6_startWord_29 : decode cX6_startWord 29 = .ok (.aload_n 0, 1) := by decide +kernel
theorem dX6_startWord_30 : decode cX6_startWord 30 = .ok (.getfield 18, 3) := by decide +kernel
theorem dX6_startWord_33 : decode cX6_startWord 33 = .ok (.aload_n 0, 1) := by decide +kernel
theorem dX6_startWord_34 : decode cX6_startWord 34 = .ok (.getfield 28, 3) := by decide +kernel
theorem dX6_startWord_37 : decode cX6_startWord 37 = .ok (.iconst (-1), 1) := by decide +kernel
theorem dX6_startWord_38 : decode cX6_startWord 38 = .ok (.iastore, 1) := by decide +kernel
theorem dX6_startWord_39 : decode cX6_startWord 39 = .ok (.aload_n 0, 1) := by decide +kernel
theorem dX6_startWord_40 : decode cX6_startWord 40 = .ok (.dup, 1) := by decide +kernel
theorem dX6_startWord_41 : decode cX6_startWord 41 = .ok (.getfield 28, 3) := by decide +kernel
theorem dX6_startWord_44 : decode cX6_startWord 44 = .ok (.iconst 1, 1) := by decide +kernel
theorem dX6_startWord_45 : decode cX6_startWord 45 = .ok (.iadd, 1) := by decide +kernel
theorem dX6_startWord_46 : decode cX6_startWord 46 = .ok (.putfield 28, 3) := by decide +kernel
theorem dX6_startWord_49 : decode cX6_startWord 49 = .ok (.return_, 1) := by decide +kernel
theorem dX6_growWord_0 : decode cX6_growWord 0 = .ok (.aload_n 0, 1) := by decide +kernel
theorem dX6_growWord_1 : decode cX6_growWord 1 = .ok (.getfield 28, 3) := by decide +kernel
theorem dX6_growWord_4 : decode cX6_growWord 4 = .ok (.iconst 1, 1) := by decide +kernel
theorem dX6_growWord_5 : decode cX6_growWord 5 = .ok (.isub, 1) := by decide +kernel
theorem dX6_growWord_6 : decode cX6_growWord 6 = .ok (.istore_n 2, 1) := by decide +kernel
theorem dX6_growWord_7 : decode cX6_growWord 7 = .ok (.iload_n 2, 1) := by decide +kernel
theorem dX6_growWord_8 : decode cX6_growWord 8 = .ok (.iconst 0, 1) := by decide +kernel
theorem dX6_growWord_9 : decode cX6_growWord 9 = .ok (.bipush 79, 2) := by decide +kernel
theorem dX6_growWord_11 : decode cX6_growWord 11 = .ok (.invokestatic 50, 3) := by decide +kernel
theorem dX6_growWord_14 : decode cX6_growWord 14 = .ok (.ifCond .eq 41, 3) := by decide +kernel
theorem dX6_growWord_17 : decode cX6_growWord 17 = .ok (.iload_n 1, 1) := by decide +kernel
theorem dX6_growWord_18 : decode cX6_growWord 18 = .ok (.bipush 46, 2) := by decide +kernel
theorem dX6_growWord_20 : decode cX6_growWord 20 = .ok (.if_icmp .ne 25, 3) := by decide +kernel
theorem dX6_growWord_23 : decode cX6_growWord 23 = .ok (.aload_n 0, 1) := by decide +kernel
theorem dX6_growWord_24 : decode cX6_growWord 24 = .ok (.getfield 18, 3) := by decide +kernel
theorem dX6_growWord_27 : decode cX6_growWord 27 = .ok (.iload_n 2, 1) := by decide +kernel
theorem dX6_growWord_28 : decode cX6_growWord 28 = .ok (.iaload, 1) := by decide +kernel
theorem dX6_growWord_29 : decode cX6_growWord 29 = .ok (.iconst (-1), 1) := by decide +kernel
theorem dX6_growWord_30 : decode cX6_growWord 30 = .ok (.if_icmp .ne 15, 3) := by decide +kernel
theorem dX6_growWord_33 : decode cX6_growWord 33 = .ok (.aload_n 0, 1) := by decide +kernel
theorem dX6_growWord_34 : decode cX6_growWord 34 = .ok (.getfield 18, 3) := by decide +kernel
theorem dX6_growWord_37 : decode cX6_growWord 37 = .ok (.iload_n 2, 1) := by decide +kernel
theorem dX6_growWord_38 : decode cX6_growWord 38 = .ok (.aload_n 0, 1) := by decide +kernel
theorem dX6_growWord_39 : decode cX6_growWord 39 = .ok (.getfield 15, 3) := by decide +kernel
theorem dX6_growWord_42 : decode cX6_growWord 42 = .ok (.iload_n 2, 1) := by decide +kernel
theorem dX6_growWord_43 : decode cX6_growWord 43 = .ok (.iaload, 1) := by decide +kernel
theorem dX6_growWord_44 : decode cX6_growWord 44 = .ok (.iastore, 1) := by decide +kernel
theorem dX6_growWord_45 : decode cX6_growWord 45 = .ok (.aload_n 0, 1) := by decide +kernel
theorem dX6_growWord_46 : decode cX6_growWord 46 = .ok (.getfield 15, 3) := by decide +kernel
theorem dX6_growWord_49 : decode cX6_growWord 49 = .ok (.iload_n 2, 1) := by decide +kernel
theorem dX6_growWord_50 : decode cX6_growWord 50 = .ok (.dup2, 1) := by decide +kernel
theorem dX6_growWord_51 : decode cX6_growWord 51 = .ok (.iaload, 1) := by decide +kernel
theorem dX6_growWord_52 : decode cX6_growWord 52 = .ok (.iconst 1, 1) := by decide +kernel
theorem dX6_growWord_53 : decode cX6_growWord 53 = .ok (.iadd, 1) := by decide +kernel
theorem dX6_growWord_54 : decode cX6_growWord 54 = .ok (.iastore, 1) := by decide +kernel
theorem dX6_growWord_55 : decode cX6_growWord 55 = .ok (.return_, 1) := by decide +kernel
theorem dX6_endField_0 : decode cX6_endField 0 = .ok (.aload_n 0, 1) := by decide +kernel
theorem dX6_endField_1 : decode cX6_endField 1 = .ok (.getfield 24, 3) := by decide +kernel
theorem dX6_endField_4 : decode cX6_endField 4 = .ok (.bipush 81, 2) := by decide +kernel
theorem dX6_endField_6 : decode cX6_endField 6 = .ok (.if_icmp .ge 26, 3) := by decide +kernel
theorem dX6_endField_9 : decode cX6_endField 9 = .ok (.aload_n 0, 1) := by decide +kernel
theorem dX6_endField_10 : decode cX6_endField 10 = .ok (.getfield 21, 3) := by decide +kernel
theorem dX6_endField_13 : decode cX6_endField 13 = .ok (.aload_n 0, 1) := by decide +kernel
theorem dX6_endField_14 : decode cX6_endField 14 = .ok (.getfield 24, 3) := by decide +kernel
theorem dX6_endField_17 : decode cX6_endField 17 = .ok (.aload_n 0, 1) := by decide +kernel
theorem dX6_endField_18 : decode cX6_endField 18 = .ok (.getfield 28, 3) := by decide +kernel
theorem dX6_endField_21 : decode cX6_endField 21 = .ok (.iastore, 1) := by decide +kernel
theorem dX6_endField_22 : decode cX6_endField 22 = .ok (.aload_n 0, 1) := by decide +kernel
theorem dX6_endField_23 : decode cX6_endField 23 = .ok (.dup, 1) := by decide +kernel
theorem dX6_endField_24 : decode cX6_endField 24 = .ok (.getfield 24, 3) := by decide +kernel
theorem dX6_endField_27 : decode cX6_endField 27 = .ok (.iconst 1, 1) := by decide +kernel
theorem dX6_endField_28 : decode cX6_endField 28 = .ok (.iadd, 1) := by decide +kernel
theorem dX6_endField_29 : decode cX6_endField 29 = .ok (.putfield 24, 3) := by decide +kernel
theorem dX6_endField_32 : decode cX6_endField 32 = .ok (.return_, 1) := by decide +kernel
theorem dX6_firstOf_0 : decode cX6_firstOf 0 = .ok (.iload_n 1, 1) := by decide +kernel
theorem dX6_firstOf_1 : decode cX6_firstOf 1 = .ok (.iconst 1, 1) := by decide +kernel
theorem dX6_firstOf_2 : decode cX6_firstOf 2 = .ok (.if_icmp .lt 20, 3) := by decide +kernel
theorem dX6_firstOf_5 : decode cX6_firstOf 5 = .ok (.iload_n 1, 1) := by decide +kernel
theorem dX6_firstOf_6 : decode cX6_firstOf 6 = .ok (.bipush 81, 2) := by decide +kernel
theorem dX6_firstOf_8 : decode cX6_firstOf 8 = .ok (.if_icmp .gt 14, 3) := by decide +kernel
theorem dX6_firstOf_11 : decode cX6_firstOf 11 = .ok (.aload_n 0, 1) := by decide +kernel
theorem dX6_firstOf_12 : decode cX6_firstOf 12 = .ok (.getfield 21, 3) := by decide +kernel
theorem dX6_firstOf_15 : decode cX6_firstOf 15 = .ok (.iload_n 1, 1) := by decide +kernel
theorem dX6_firstOf_16 : decode cX6_firstOf 16 = .ok (.iconst 1, 1) := by decide +kernel
theorem dX6_firstOf_17 : decode cX6_firstOf 17 = .ok (.isub, 1) := by decide +kernel
theorem dX6_firstOf_18 : decode cX6_firstOf 18 = .ok (.iaload, 1) := by decide +kernel
theorem dX6_firstOf_19 : decode cX6_firstOf 19 = .ok (.goto 4, 3) := by decide +kernel
theorem dX6_firstOf_22 : decode cX6_firstOf 22 = .ok (.iconst 0, 1) := by decide +kernel
theorem dX6_firstOf_23 : decode cX6_firstOf 23 = .ok (.ireturn, 1) := by decide +kernel
theorem dX6_endOf_0 : decode cX6_endOf 0 = .ok (.iload_n 1, 1) := by decide +kernel
theorem dX6_endOf_1 : decode cX6_endOf 1 = .ok (.ifCond .lt 18, 3) := by decide +kernel
theorem dX6_endOf_4 : decode cX6_endOf 4 = .ok (.iload_n 1, 1) := by decide +kernel
theorem dX6_endOf_5 : decode cX6_endOf 5 = .ok (.bipush 81, 2) := by decide +kernel
theorem dX6_endOf_7 : decode cX6_endOf 7 = .ok (.if_icmp .ge 12, 3) := by decide +kernel
theorem dX6_endOf_10 : decode cX6_endOf 10 = .ok (.aload_n 0, 1) := by decide +kernel
theorem dX6_endOf_11 : decode cX6_endOf 11 = .ok (.getfield 21, 3) := by decide +kernel
theorem dX6_endOf_14 : decode cX6_endOf 14 = .ok (.iload_n 1, 1) := by decide +kernel
theorem dX6_endOf_15 : decode cX6_endOf 15 = .ok (.iaload, 1) := by decide +kernel
theorem dX6_endOf_16 : decode cX6_endOf 16 = .ok (.goto 4, 3) := by decide +kernel
theorem dX6_endOf_19 : decode cX6_endOf 19 = .ok (.iconst 0, 1) := by decide +kernel
theorem dX6_endOf_20 : decode cX6_endOf 20 = .ok (.ireturn, 1) := by decide +kernel
theorem dX6_startOf_0 : decode cX6_startOf 0 = .ok (.iload_n 1, 1) := by decide +kernel
theorem dX6_startOf_1 : decode cX6_startOf 1 = .ok (.ifCond .lt 18, 3) := by decide +kernel
theorem dX6_startOf_4 : decode cX6_startOf 4 = .ok (.iload_n 1, 1) := by decide +kernel
theorem dX6_startOf_5 : decode cX6_startOf 5 = .ok (.bipush 80, 2) := by decide +kernel
theorem dX6_startOf_7 : decode cX6_startOf 7 = .ok (.if_icmp .ge 12, 3) := by decide +kernel
theorem dX6_startOf_10 : decode cX6_startOf 10 = .ok (.aload_n 0, 1) := by decide +kernel
theorem dX6_startOf_11 : decode cX6_startOf 11 = .ok (.getfield 9, 3) := by decide +kernel
theorem dX6_startOf_14 : decode cX6_startOf 14 = .ok (.iload_n 1, 1) := by decide +kernel
theorem dX6_startOf_15 : decode cX6_startOf 15 = .ok (.iaload, 1) := by decide +kernel
theorem dX6_startOf_16 : decode cX6_startOf 16 = .ok (.goto 4, 3) := by decide +kernel
theorem dX6_startOf_19 : decode cX6_startOf 19 = .ok (.iconst 0, 1) := by decide +kernel
theorem dX6_startOf_20 : decode cX6_startOf 20 = .ok (.ireturn, 1) := by decide +kernel
theorem dX6_lengthOf_0 : decode cX6_lengthOf 0 = .ok (.iload_n 1, 1) := by decide +kernel
theorem dX6_lengthOf_1 : decode cX6_lengthOf 1 = .ok (.ifCond .lt 18, 3) := by decide +kernel
theorem dX6_lengthOf_4 : decode cX6_lengthOf 4 = .ok (.iload_n 1, 1) := by decide +kernel
theorem dX6_lengthOf_5 : decode cX6_lengthOf 5 = .ok (.bipush 80, 2) := by decide +kernel
theorem dX6_lengthOf_7 : decode cX6_lengthOf 7 = .ok (.if_icmp .ge 12, 3) := by decide +kernel
theorem dX6_lengthOf_10 : decode cX6_lengthOf 10 = .ok (.aload_n 0, 1) := by decide +kernel
theorem dX6_lengthOf_11 : decode cX6_lengthOf 11 = .ok (.getfield 15, 3) := by decide +kernel
theorem dX6_lengthOf_14 : decode cX6_lengthOf 14 = .ok (.iload_n 1, 1) := by decide +kernel
theorem dX6_lengthOf_15 : decode cX6_lengthOf 15 = .ok (.iaload, 1) := by decide +kernel
theorem dX6_lengthOf_16 : decode cX6_lengthOf 16 = .ok (.goto 4, 3) := by decide +kernel
theorem dX6_lengthOf_19 : decode cX6_lengthOf 19 = .ok (.iconst 0, 1) := by decide +kernel
theorem dX6_lengthOf_20 : decode cX6_lengthOf 20 = .ok (.ireturn, 1) := by decide +kernel
theorem dX6_pointOf_0 : decode cX6_pointOf 0 = .ok (.iload_n 1, 1) := by decide +kernel
theorem dX6_pointOf_1 : decode cX6_pointOf 1 = .ok (.ifCond .lt 18, 3) := by decide +kernel
theorem dX6_pointOf_4 : decode cX6_pointOf 4 = .ok (.iload_n 1, 1) := by decide +kernel
theorem dX6_pointOf_5 : decode cX6_pointOf 5 = .ok (.bipush 80, 2) := by decide +kernel
theorem dX6_pointOf_7 : decode cX6_pointOf 7 = .ok (.if_icmp .ge 12, 3) := by decide +kernel
theorem dX6_pointOf_10 : decode cX6_pointOf 10 = .ok (.aload_n 0, 1) := by decide +kernel
theorem dX6_pointOf_11 : decode cX6_pointOf 11 = .ok (.getfield 18, 3) := by decide +kernel
theorem dX6_pointOf_14 : decode cX6_pointOf 14 = .ok (.iload_n 1, 1) := by decide +kernel
theorem dX6_pointOf_15 : decode cX6_pointOf 15 = .ok (.iaload, 1) := by decide +kernel
theorem dX6_pointOf_16 : decode cX6_pointOf 16 = .ok (.goto 4, 3) := by decide +kernel
theorem dX6_pointOf_19 : decode cX6_pointOf 19 = .ok (.iconst (-1), 1) := by decide +kernel
theorem dX6_pointOf_20 : decode cX6_pointOf 20 = .ok (.ireturn, 1) := by decide +kernel
theorem dX7_init_0 : decode cX7_init 0 = .ok (.aload_n 0, 1) := by decide +kernel
theorem dX7_init_1 : decode cX7_init 1 = .ok (.invokespecial 3, 3) := by decide +kernel
theorem dX7_init_4 : decode cX7_init 4 = .ok (.aload_n 0, 1) := by decide +kernel
theorem dX7_init_5 : decode cX7_init 5 = .ok (.new 9, 3) := by decide +kernel
theorem dX7_init_8 : decode cX7_init 8 = .ok (.dup, 1) := by decide +kernel
theorem dX7_init_9 : decode cX7_init 9 = .ok (.invokespecial 11, 3) := by decide +kernel
theorem dX7_init_12 : decode cX7_init 12 = .ok (.putfield 12, 3) := by decide +kernel
theorem dX7_init_15 : decode cX7_init 15 = .ok (.aload_n 0, 1) := by decide +kernel
theorem dX7_init_16 : decode cX7_init 16 = .ok (.bipush 6, 2) := by decide +kernel
theorem dX7_init_18 : decode cX7_init 18 = .ok (.anewarray 9, 3) := by decide +kernel
theorem dX7_init_21 : decode cX7_init 21 = .ok (.putfield 16, 3) := by decide +kernel
theorem dX7_init_24 : decode cX7_init 24 = .ok (.aload_n 0, 1) := by decide +kernel
theorem dX7_init_25 : decode cX7_init 25 = .ok (.bipush 100, 2) := by decide +kernel
theorem dX7_init_27 : decode cX7_init 27 = .ok (.newarray .int, 2) := by decide +kernel
theorem dX7_init_29 : decode cX7_init 29 = .ok (.putfield 20, 3) := by decide +kernel
theorem dX7_init_32 : decode cX7_init 32 = .ok (.aload_n 0, 1) := by decide +kernel
theorem dX7_init_33 : decode cX7_init 33 = .ok (.new 24, 3) := by decide +kernel
theorem dX7_init_36 : decode cX7_init 36 = .ok (.dup, 1) := by decide +kernel
theorem dX7_init_37 : decode cX7_init 37 = .ok (.invokespecial 26, 3) := by decide +kernel
theorem dX7_init_40 : decode cX7_init 40 = .ok (.putfield 27, 3) := by decide +kernel
theorem dX7_init_43 : decode cX7_init 43 = .ok (.aload_n 0, 1) := by decide +kernel
theorem dX7_init_44 : decode cX7_init 44 = .ok (.new 31, 3) := by decide +kernel
theorem dX7_init_47 : decode cX7_init 47 = .ok (.dup, 1) := by decide +kernel
theorem dX7_init_48 : decode cX7_init 48 = .ok (.invokespecial 33, 3) := by decide +kernel
theorem dX7_init_51 : decode cX7_init 51 = .ok (.putfield 34, 3) := by decide +kernel
theorem dX7_init_54 : decode cX7_init 54 = .ok (.iconst 0, 1) := by decide +kernel
theorem dX7_init_55 : decode cX7_init 55 = .ok (.istore_n 1, 1) := by decide +kernel
theorem dX7_init_56 : decode cX7_init 56 = .ok (.iload_n 1, 1) := by decide +kernel
theorem dX7_init_57 : decode cX7_init 57 = .ok (.bipush 6, 2) := by decide +kernel
theorem dX7_init_59 : decode cX7_init 59 = .ok (.if_icmp .ge 22, 3) := by decide +kernel
theorem dX7_init_62 : decode cX7_init 62 = .ok (.aload_n 0, 1) := by decide +kernel
theorem dX7_init_63 : decode cX7_init 63 = .ok (.getfield 16, 3) := by decide +kernel
theorem dX7_init_66 : decode cX7_init 66 = .ok (.iload_n 1, 1) := by decide +kernel
theorem dX7_init_67 : decode cX7_init 67 = .ok (.new 9, 3) := by decide +kernel
theorem dX7_init_70 : decode cX7_init 70 = .ok (.dup, 1) := by decide +kernel
theorem dX7_init_71 : decode cX7_init 71 = .ok (.invokespecial 11, 3) := by decide +kernel
theorem dX7_init_74 : decode cX7_init 74 = .ok (.aastore, 1) := by decide +kernel
theorem dX7_init_75 : decode cX7_init 75 = .ok (.iinc 1 1, 3) := by decide +kernel
theorem dX7_init_78 : decode cX7_init 78 = .ok (.goto (-22), 3) := by decide +kernel
theorem dX7_init_81 : decode cX7_init 81 = .ok (.return_, 1) := by decide +kernel
theorem dX7_setNumber_0 : decode cX7_setNumber 0 = .ok (.iload_n 1, 1) := by decide +kernel
theorem dX7_setNumber_1 : decode cX7_setNumber 1 = .ok (.ifCond .ne 36, 3) := by decide +kernel
theorem dX7_setNumber_4 : decode cX7_setNumber 4 = .ok (.iload_n 2, 1) := by decide +kernel
theorem dX7_setNumber_5 : decode cX7_setNumber 5 = .ok (.bipush 20, 2) := by decide +kernel
theorem dX7_setNumber_7 : decode cX7_setNumber 7 = .ok (.bipush 80, 2) := by decide +kernel
theorem dX7_setNumber_9 : decode cX7_setNumber 9 = .ok (.invokestatic 38, 3) := by decide +kernel
theorem dX7_setNumber_12 : decode cX7_setNumber 12 = .ok (.ifCond .eq 25, 3) := by decide +kernel
theorem dX7_setNumber_15 : decode cX7_setNumber 15 = .ok (.aload_n 0, 1) := by decide +kernel
theorem dX7_setNumber_16 : decode cX7_setNumber 16 = .ok (.invokevirtual 42, 3) := by decide +kernel
theorem dX7_setNumber_19 : decode cX7_setNumber 19 = .ok (.aload_n 0, 1) := by decide +kernel
theorem dX7_setNumber_20 : decode cX7_setNumber 20 = .ok (.getfield 12, 3) := by decide +kernel
theorem dX7_setNumber_23 : decode cX7_setNumber 23 = .ok (.getfield 45, 3) := by decide +kernel
theorem dX7_setNumber_26 : decode cX7_setNumber 26 = .ok (.istore_n 3, 1) := by decide +kernel
theorem dX7_setNumber_27 : decode cX7_setNumber 27 = .ok (.aload_n 0, 1) := by decide +kernel
theorem dX7_setNumber_28 : decode cX7_setNumber 28 = .ok (.getfield 12, 3) := by decide +kernel
theorem dX7_setNumber_31 : decode cX7_setNumber 31 = .ok (.iload_n 2, 1) := by decide +kernel
theorem dX7_setNumber_32 : decode cX7_setNumber 32 = .ok (.putfield 45, 3) := by decide +kernel
theorem dX7_setNumber_35 : decode cX7_setNumber 35 = .ok (.iload_n 3, 1) := by decide +kernel
theorem dX7_setNumber_36 : decode cX7_setNumber 36 = .ok (.ireturn, 1) := by decide +kernel
theorem dX7_setNumber_37 : decode cX7_setNumber 37 = .ok (.iload_n 1, 1) := by decide +kernel
theorem dX7_setNumber_38 : decode cX7_setNumber 38 = .ok (.iconst 1, 1) := by decide +kernel
theorem dX7_setNumber_39 : decode cX7_setNumber 39 = .ok (.if_icmp .ne 35, 3) := by decide +kernel
theorem dX7_setNumber_42 : decode cX7_setNumber 42 = .ok (.iload_n 2, 1) := by decide +kernel
theorem dX7_setNumber_43 : decode cX7_setNumber 43 = .ok (.iconst 2, 1) := by decide +kernel
theorem dX7_setNumber_44 : decode cX7_setNumber 44 = .ok (.bipush 20, 2) := by decide +kernel
theorem dX7_setNumber_46 : decode cX7_setNumber 46 = .ok (.invokestatic 38, 3) := by decide +kernel
theorem dX7_setNumber_49 : decode cX7_setNumber 49 = .ok (.ifCond .eq 25, 3) := by decide +kernel
theorem dX7_setNumber_52 : decode cX7_setNumber 52 = .ok (.aload_n 0, 1) := by decide +kernel
theorem dX7_setNumber_53 : decode cX7_setNumber 53 = .ok (.invokevirtual 42, 3) := by decide +kernel
theorem dX7_setNumber_56 : decode cX7_setNumber 56 = .ok (.aload_n 0, 1) := by decide +kernel
theorem dX7_setNumber_57 : decode cX7_setNumber 57 = .ok (.getfield 12, 3) := by decide +kernel
theorem dX7_setNumber_60 : decode cX7_setNumber 60 = .ok (.getfield 49, 3) := by decide +kernel
theorem dX7_setNumber_63 : decode cX7_setNumber 63 = .ok (.istore_n 3, 1) := by decide +kernel
theorem dX7_setNumber_64 : decode cX7_setNumber 64 = .ok (.aload_n 0, 1) := by decide +kernel
theorem dX7_setNumber_65 : decode cX7_setNumber 65 = .ok (.getfield 12, 3) := by decide +kernel
theorem dX7_setNumber_68 : decode cX7_setNumber 68 = .ok (.iload_n 2, 1) := by decide +kernel
theorem dX7_setNumber_69 : decode cX7_setNumber 69 = .ok (.putfield 49, 3) := by decide +kernel
theorem dX7_setNumber_72 : decode cX7_setNumber 72 = .ok (.iload_n 3, 1) := by decide +kernel
theorem dX7_setNumber_73 : decode cX7_setNumber 73 = .ok (.ireturn, 1) := by decide +kernel
theorem dX7_setNumber_74 : decode cX7_setNumber 74 = .ok (.iconst (-1), 1) := by decide +kernel
theorem dX7_setNumber_75 : decode cX7_setNumber 75 = .ok (.ireturn, 1) := by decide +kernel
theorem dX7_setIndent_0 : decode cX7_setIndent 0 = .ok (.aload_n 0, 1) := by decide +kernel
theorem dX7_setIndent_1 : decode cX7_setIndent 1 = .ok (.iload_n 1, 1) := by decide +kernel
theorem dX7_setIndent_2 : decode cX7_setIndent 2 = .ok (.invokevirtual 52, 3) := by decide +kernel
theorem dX7_setIndent_5 : decode cX7_setIndent 5 = .ok (.ifCond .eq 22, 3) := by decide +kernel
theorem dX7_setIndent_8 : decode cX7_setIndent 8 = .ok (.iload_n 2, 1) := by decide +kernel
theorem dX7_setIndent_9 : decode cX7_setIndent 9 = .ok (.iconst 0, 1) := by decide +kernel
theorem dX7_setIndent_10 : decode cX7_setIndent 10 = .ok (.iconst 1, 1) := by decide +kernel
theorem dX7_setIndent_11 : decode cX7_setIndent 11 = .ok (.invokestatic 38, 3) := by decide +kernel
theorem dX7_setIndent_14 : decode cX7_setIndent 14 = .ok (.ifCond .eq 13, 3) := by decide +kernel
theorem dX7_setIndent_17 : decode cX7_setIndent 17 = .ok (.iload_n 3, 1) := by decide +kernel
theorem dX7_setIndent_18 : decode cX7_setIndent 18 = .ok (.iconst 0, 1) := by decide +kernel
theorem dX7_setIndent_19 : decode cX7_setIndent 19 = .ok (.bipush 19, 2) := by decide +kernel
theorem dX7_setIndent_21 : decode cX7_setIndent 21 = .ok (.invokestatic 38, 3) := by decide +kernel
theorem dX7_setIndent_24 : decode cX7_setIndent 24 = .ok (.ifCond .ne 5, 3) := by decide +kernel
theorem dX7_setIndent_27 : decode cX7_setIndent 27 = .ok (.iconst (-1), 1) := by decide +kernel
theorem dX7_setIndent_28 : decode cX7_setIndent 28 = .ok (.ireturn, 1) := by decide +kernel
theorem dX7_setIndent_29 : decode cX7_setIndent 29 = .ok (.aload_n 0, 1) := by decide +kernel
theorem dX7_setIndent_30 : decode cX7_setIndent 30 = .ok (.invokevirtual 42, 3) := by decide +kernel
theorem dX7_setIndent_33 : decode cX7_setIndent 33 = .ok (.aload_n 0, 1) := by decide +kernel
theorem dX7_setIndent_34 : decode cX7_setIndent 34 = .ok (.getfield 12, 3) := by decide +kernel
theorem dX7_setIndent_37 : decode cX7_setIndent 37 = .ok (.getfield 56, 3) := by decide +kernel
theorem dX7_setIndent_40 : decode cX7_setIndent 40 = .ok (.iload_n 1, 1) := by decide +kernel
theorem dX7_setIndent_41 : decode cX7_setIndent 41 = .ok (.aaload, 1) := by decide +kernel
theorem dX7_setIndent_42 : decode cX7_setIndent 42 = .ok (.astore 4, 2) := by decide +kernel
theorem dX7_setIndent_44 : decode cX7_setIndent 44 = .ok (.iload_n 2, 1) := by decide +kernel
theorem dX7_setIndent_45 : decode cX7_setIndent 45 = .ok (.ifCond .ne 19, 3) := by decide +kernel
theorem dX7_setIndent_48 : decode cX7_setIndent 48 = .ok (.aload 4, 2) := by decide +kernel
theorem dX7_setIndent_50 : decode cX7_setIndent 50 = .ok (.getfield 60, 3) := by decide +kernel
theorem dX7_setIndent_53 : decode cX7_setIndent 53 = .ok (.istore 5, 2) := by decide +kernel
theorem dX7_setIndent_55 : decode cX7_setIndent 55 = .ok (.aload 4, 2) := by decide +kernel
theorem dX7_setIndent_57 : decode cX7_setIndent 57 = .ok (.iload_n 3, 1) := by decide +kernel
theorem dX7_setIndent_58 : decode cX7_setIndent 58 = .ok (.putfield 60, 3) := by decide +kernel
theorem dX7_setIndent_61 : decode cX7_setIndent 61 = .ok (.goto 16, 3) := by decide +kernel
theorem dX7_setIndent_64 : decode cX7_setIndent 64 = .ok (.aload 4, 2) := by decide +kernel
theorem dX7_setIndent_66 : decode cX7_setIndent 66 = .ok (.getfield 65, 3) := by decide +kernel
theorem dX7_setIndent_69 : decode cX7_setIndent 69 = .ok (.istore 5, 2) := by decide +kernel
theorem dX7_setIndent_71 : decode cX7_setIndent 71 = .ok (.aload 4, 2) := by decide +kernel
theorem dX7_setIndent_73 : decode cX7_setIndent 73 = .ok (.iload_n 3, 1) := by decide +kernel
theorem dX7_setIndent_74 : decode cX7_setIndent 74 = .ok (.putfield 65, 3) := by decide +kernel
theorem dX7_setIndent_77 : decode cX7_setIndent 77 = .ok (.iload 5, 2) := by decide +kernel
theorem dX7_setIndent_79 : decode cX7_setIndent 79 = .ok (.ireturn, 1) := by decide +kernel
theorem dX7_setStop_0 : decode cX7_setStop 0 = .ok (.aload_n 0, 1) := by decide +kernel
theorem dX7_setStop_1 : decode cX7_setStop 1 = .ok (.iload_n 1, 1) := by decide +kernel
theorem dX7_setStop_2 : decode cX7_setStop 2 = .ok (.invokevirtual 52, 3) := by decide +kernel
theorem dX7_setStop_5 : decode cX7_setStop 5 = .ok (.ifCond .eq 41, 3) := by decide +kernel
theorem dX7_setStop_8 : decode cX7_setStop 8 = .ok (.iload_n 2, 1) := by decide +kernel
theorem dX7_setStop_9 : decode cX7_setStop 9 = .ok (.iconst 1, 1) := by decide +kernel
theorem dX7_setStop_10 : decode cX7_setStop 10 = .ok (.bipush 80, 2) := by decide +kernel
theorem dX7_setStop_12 : decode cX7_setStop 12 = .ok (.invokestatic 38, 3) := by decide +kernel
theorem dX7_setStop_15 : decode cX7_setStop 15 = .ok (.ifCond .eq 31, 3) := by decide +kernel
theorem dX7_setStop_18 : decode cX7_setStop 18 = .ok (.iload_n 3, 1) := by decide +kernel
theorem dX7_setStop_19 : decode cX7_setStop 19 = .ok (.iconst 0, 1) := by decide +kernel
theorem dX7_setStop_20 : decode cX7_setStop 20 = .ok (.iconst 4, 1) := by decide +kernel
theorem dX7_setStop_21 : decode cX7_setStop 21 = .ok (.invokestatic 38, 3) := by decide +kernel
theorem dX7_setStop_24 : decode cX7_setStop 24 = .ok (.ifCond .eq 22, 3) := by decide +kernel
theorem dX7_setStop_27 : decode cX7_setStop 27 = .ok (.iload 4, 2) := by decide +kernel
theorem dX7_setStop_29 : decode cX7_setStop 29 = .ok (.iconst 0, 1) := by decide +kernel
theorem dX7_setStop_30 : decode cX7_setStop 30 = .ok (.iload_n 3, 1) := by decide +kernel
theorem dX7_setStop_31 : decode cX7_setStop 31 = .ok (.iconst 4, 1) := by decide +kernel
theorem dX7_setStop_32 : decode cX7_setStop 32 = .ok (.if_icmp .ne 7, 3) := by decide +kernel
theorem dX7_setStop_35 : decode cX7_setStop 35 = .ok (.iconst 0, 1) := by decide +kernel
theorem dX7_setStop_36 : decode cX7_setStop 36 = .ok (.goto 4, 3) := by decide +kernel
theorem dX7_setStop_39 : decode cX7_setStop 39 = .ok (.iconst 3, 1) := by decide +kernel
theorem dX7_setStop_40 : decode cX7_setStop 40 = .ok (.invokestatic 38, 3) := by decide +kernel
theorem dX7_setStop_43 : decode cX7_setStop 43 = .ok (.ifCond .ne 5, 3) := by decide +kernel
theorem dX7_setStop_46 : decode cX7_setStop 46 = .ok (.iconst (-1), 1) := by decide +kernel
theorem dX7_setStop_47 : decode cX7_setStop 47 = .ok (.ireturn, 1) := by decide +kernel
theorem dX7_setStop_48 : decode cX7_setStop 48 = .ok (.aload_n 0, 1) := by decide +kernel
theorem dX7_setStop_49 : decode cX7_setStop 49 = .ok (.getfield 12, 3) := by decide +kernel
theorem dX7_setStop_52 : decode cX7_setStop 52 = .ok (.getfield 56, 3) := by decide +kernel
theorem dX7_setStop_55 : decode cX7_setStop 55 = .ok (.iload_n 1, 1) := by decide +kernel
theorem dX7_setStop_56 : decode cX7_setStop 56 = .ok (.aaload, 1) := by decide +kernel
theorem dX7_setStop_57 : decode cX7_setStop 57 = .ok (.astore 5, 2) := by decide +kernel
theorem dX7_setStop_59 : decode cX7_setStop 59 = .ok (.aload 5, 2) := by decide +kernel
theorem dX7_setStop_61 : decode cX7_setStop 61 = .ok (.iload_n 2, 1) := by decide +kernel
theorem dX7_setStop_62 : decode cX7_setStop 62 = .ok (.invokevirtual 68, 3) := by decide +kernel
theorem dX7_setStop_65 : decode cX7_setStop 65 = .ok (.ifCond .ne 18, 3) := by decide +kernel
theorem dX7_setStop_68 : decode cX7_setStop 68 = .ok (.aload 5, 2) := by decide +kernel
theorem dX7_setStop_70 : decode cX7_setStop 70 = .ok (.bipush 81, 2) := by decide +kernel
theorem dX7_setStop_72 : decode cX7_setStop 72 = .ok (.invokevirtual 71, 3) := by decide +kernel
theorem dX7_setStop_75 : decode cX7_setStop 75 = .ok (.bipush 8, 2) := by decide +kernel
theorem dX7_setStop_77 : decode cX7_setStop 77 = .ok (.if_icmp .lt 6, 3) := by decide +kernel
theorem dX7_setStop_80 : decode cX7_setStop 80 = .ok (.bipush (-3), 2) := by decide +kernel
theorem dX7_setStop_82 : decode cX7_setStop 82 = .ok (.ireturn, 1) := by decide +kernel
theorem dX7_setStop_83 : decode cX7_setStop 83 = .ok (.aload_n 0, 1) := by decide +kernel
theorem dX7_setStop_84 : decode cX7_setStop 84 = .ok (.invokevirtual 42, 3) := by decide +kernel
theorem dX7_setStop_87 : decode cX7_setStop 87 = .ok (.aload 5, 2) := by decide +kernel
theorem dX7_setStop_89 : decode cX7_setStop 89 = .ok (.iload_n 2, 1) := by decide +kernel
theorem dX7_setStop_90 : decode cX7_setStop 90 = .ok (.iload_n 3, 1) := by decide +kernel
theorem dX7_setStop_91 : decode cX7_setStop 91 = .ok (.iload 4, 2) := by decide +kernel
theorem dX7_setStop_93 : decode cX7_setStop 93 = .ok (.invokevirtual 75, 3) := by decide +kernel
theorem dX7_setStop_96 : decode cX7_setStop 96 = .ok (.aload 5, 2) := by decide +kernel
theorem dX7_setStop_98 : decode cX7_setStop 98 = .ok (.iload_n 2, 1) := by decide +kernel
theorem dX7_setStop_99 : decode cX7_setStop 99 = .ok (.invokevirtual 71, 3) := by decide +kernel
theorem dX7_setStop_102 : decode cX7_setStop 102 = .ok (.ireturn, 1) := by decide +kernel
theorem dX7_removeStop_0 : decode cX7_removeStop 0 = .ok (.aload_n 0, 1) := by decide +kernel
theorem dX7_removeStop_1 : decode cX7_removeStop 1 = .ok (.iload_n 1, 1) := by decide +kernel
theorem dX7_removeStop_2 : decode cX7_removeStop 2 = .ok (.invokevirtual 52, 3) := by decide +kernel
theorem dX7_removeStop_5 : decode cX7_removeStop 5 = .ok (.ifCond .ne 5, 3) := by decide +kernel
theorem dX7_removeStop_8 : decode cX7_removeStop 8 = .ok (.iconst (-1), 1) := by decide +kernel
theorem dX7_removeStop_9 : decode cX7_removeStop 9 = .ok (.ireturn, 1) := by decide +kernel
theorem dX7_removeStop_10 : decode cX7_removeStop 10 = .ok (.aload_n 0, 1) := by decide +kernel
theorem dX7_removeStop_11 : decode cX7_removeStop 11 = .ok (.getfield 12, 3) := by decide +kernel
theorem dX7_removeStop_14 : decode cX7_removeStop 14 = .ok (.getfield 56, 3) := by decide +kernel
theorem dX7_removeStop_17 : decode cX7_removeStop 17 = .ok (.iload_n 1, 1) := by decide +kernel
theorem dX7_removeStop_18 : decode cX7_removeStop 18 = .ok (.aaload, 1) := by decide +kernel
theorem dX7_removeStop_19 : decode cX7_removeStop 19 = .ok (.astore_n 3, 1) := by decide +kernel
theorem dX7_removeStop_20 : decode cX7_removeStop 20 = .ok (.aload_n 3, 1) := by decide +kernel
theorem dX7_removeStop_21 : decode cX7_removeStop 21 = .ok (.iload_n 2, 1) := by decide +kernel
theorem dX7_removeStop_22 : decode cX7_removeStop 22 = .ok (.invokevirtual 79, 3) := by decide +kernel
theorem dX7_removeStop_25 : decode cX7_removeStop 25 = .ok (.istore 4, 2) := by decide +kernel
theorem dX7_removeStop_27 : decode cX7_removeStop 27 = .ok (.iload 4, 2) := by decide +kernel
theorem dX7_removeStop_29 : decode cX7_removeStop 29 = .ok (.bipush (-9), 2) := by decide +kernel
theorem dX7_removeStop_31 : decode cX7_removeStop 31 = .ok (.if_icmp .ne 5, 3) := by decide +kernel
theorem dX7_removeStop_34 : decode cX7_removeStop 34 = .ok (.iconst (-1), 1) := by decide +kernel
theorem dX7_removeStop_35 : decode cX7_removeStop 35 = .ok (.ireturn, 1) := by decide +kernel
theorem dX7_removeStop_36 : decode cX7_removeStop 36 = .ok (.aload_n 0, 1) := by decide +kernel
theorem dX7_removeStop_37 : decode cX7_removeStop 37 = .ok (.invokevirtual 42, 3) := by decide +kernel
theorem dX7_removeStop_40 : decode cX7_removeStop 40 = .ok (.aload_n 3, 1) := by decide +kernel
theorem dX7_removeStop_41 : decode cX7_removeStop 41 = .ok (.iload 4, 2) := by decide +kernel
theorem dX7_removeStop_43 : decode cX7_removeStop 43 = .ok (.invokevirtual 82, 3) := by decide +kernel
theorem dX7_removeStop_46 : decode cX7_removeStop 46 = .ok (.aload_n 3, 1) := by decide +kernel
theorem dX7_removeStop_47 : decode cX7_removeStop 47 = .ok (.bipush 81, 2) := by decide +kernel
theorem dX7_removeStop_49 : decode cX7_removeStop 49 = .ok (.invokevirtual 71, 3) := by decide +kernel
theorem dX7_removeStop_52 : decode cX7_removeStop 52 = .ok (.ireturn, 1) := by decide +kernel
theorem dX7_addParagraph_0 : decode cX7_addParagraph 0 = .ok (.aload_n 0, 1) := by decide +kernel
theorem dX7_addParagraph_1 : decode cX7_addParagraph 1 = .ok (.iload_n 1, 1) := by decide +kernel
theorem dX7_addParagraph_2 : decode cX7_addParagraph 2 = .ok (.invokevirtual 52, 3) := by decide +kernel
theorem dX7_addParagraph_5 : decode cX7_addParagraph 5 = .ok (.ifCond .ne 5, 3) := by decide +kernel
theorem dX7_addParagraph_8 : decode cX7_addParagraph 8 = .ok (.iconst (-1), 1) := by decide +kernel
theorem dX7_addParagraph_9 : decode cX7_addParagraph 9 = .ok (.ireturn, 1) := by decide +kernel
theorem dX7_addParagraph_10 : decode cX7_addParagraph 10 = .ok (.aload_n 0, 1) := by decide +kernel
theorem dX7_addParagraph_11 : decode cX7_addParagraph 11 = .ok (.getfield 12, 3) := by decide +kernel
theorem dX7_addParagraph_14 : decode cX7_addParagraph 14 = .ok (.getfield 101, 3) := by decide +kernel
theorem dX7_addParagraph_17 : decode cX7_addParagraph 17 = .ok (.bipush 8, 2) := by decide +kernel
theorem dX7_addParagraph_19 : decode cX7_addParagraph 19 = .ok (.if_icmp .lt 6, 3) := by decide +kernel
theorem dX7_addParagraph_22 : decode cX7_addParagraph 22 = .ok (.bipush (-3), 2) := by decide +kernel
theorem dX7_addParagraph_24 : decode cX7_addParagraph 24 = .ok (.ireturn, 1) := by decide +kernel
theorem dX7_addParagraph_25 : decode cX7_addParagraph 25 = .ok (.aload_n 0, 1) := by decide +kernel
theorem dX7_addParagraph_26 : decode cX7_addParagraph 26 = .ok (.invokevirtual 42, 3) := by decide +kernel
theorem dX7_addParagraph_29 : decode cX7_addParagraph 29 = .ok (.aload_n 0, 1) := by decide +kernel
theorem dX7_addParagraph_30 : decode cX7_addParagraph 30 = .ok (.getfield 12, 3) := by decide +kernel
theorem dX7_addParagraph_33 : decode cX7_addParagraph 33 = .ok (.getfield 101, 3) := by decide +kernel
theorem dX7_addParagraph_36 : decode cX7_addParagraph 36 = .ok (.istore_n 2, 1) := by decide +kernel
theorem dX7_addParagraph_37 : decode cX7_addParagraph 37 = .ok (.aload_n 0, 1) := by decide +kernel
theorem dX7_addParagraph_38 : decode cX7_addParagraph 38 = .ok (.getfield 12, 3) := by decide +kernel
theorem dX7_addParagraph_41 : decode cX7_addParagraph 41 = .ok (.getfield 104, 3) := by decide +kernel
theorem dX7_addParagraph_44 : decode cX7_addParagraph 44 = .ok (.iload_n 2, 1) := by decide +kernel
theorem dX7_addParagraph_45 : decode cX7_addParagraph 45 = .ok (.aaload, 1) := by decide +kernel
theorem dX7_addParagraph_46 : decode cX7_addParagraph 46 = .ok (.iload_n 1, 1) := by decide +kernel
theorem dX7_addParagraph_47 : decode cX7_addParagraph 47 = .ok (.putfield 108, 3) := by decide +kernel
theorem dX7_addParagraph_50 : decode cX7_addParagraph 50 = .ok (.aload_n 0, 1) := by decide +kernel
theorem dX7_addParagraph_51 : decode cX7_addParagraph 51 = .ok (.getfield 12, 3) := by decide +kernel
theorem dX7_addParagraph_54 : decode cX7_addParagraph 54 = .ok (.getfield 104, 3) := by decide +kernel
theorem dX7_addParagraph_57 : decode cX7_addParagraph 57 = .ok (.iload_n 2, 1) := by decide +kernel
theorem dX7_addParagraph_58 : decode cX7_addParagraph 58 = .ok (.aaload, 1) := by decide +kernel
theorem dX7_addParagraph_59 : decode cX7_addParagraph 59 = .ok (.iconst 0, 1) := by decide +kernel
theorem dX7_addParagraph_60 : decode cX7_addParagraph 60 = .ok (.putfield 113, 3) := by decide +kernel
theorem dX7_addParagraph_63 : decode cX7_addParagraph 63 = .ok (.aload_n 0, 1) := by decide +kernel
theorem dX7_addParagraph_64 : decode cX7_addParagraph 64 = .ok (.getfield 12, 3) := by decide +kernel
theorem dX7_addParagraph_67 : decode cX7_addParagraph 67 = .ok (.dup, 1) := by decide +kernel
theorem dX7_addParagraph_68 : decode cX7_addParagraph 68 = .ok (.getfield 101, 3) := by decide +kernel
theorem dX7_addParagraph_71 : decode cX7_addParagraph 71 = .ok (.iconst 1, 1) := by decide +kernel
theorem dX7_addParagraph_72 : decode cX7_addParagraph 72 = .ok (.iadd, 1) := by decide +kernel
theorem dX7_addParagraph_73 : decode cX7_addParagraph 73 = .ok (.putfield 101, 3) := by decide +kernel
theorem dX7_addParagraph_76 : decode cX7_addParagraph 76 = .ok (.iload_n 2, 1) := by decide +kernel
theorem dX7_addParagraph_77 : decode cX7_addParagraph 77 = .ok (.ireturn, 1) := by decide +kernel
theorem dX7_removeParagraph_0 : decode cX7_removeParagraph 0 = .ok (.aload_n 0, 1) := by decide +kernel
theorem dX7_removeParagraph_1 : decode cX7_removeParagraph 1 = .ok (.iload_n 1, 1) := by decide +kernel
theorem dX7_removeParagraph_2 : decode cX7_removeParagraph 2 = .ok (.invokevirtual 116, 3) := by decide +kernel
theorem dX7_removeParagraph_5 : decode cX7_removeParagraph 5 = .ok (.ifCond .ne 5, 3) := by decide +kernel
theorem dX7_removeParagraph_8 : decode cX7_removeParagraph 8 = .ok (.iconst (-1), 1) := by decide +kernel
theorem dX7_removeParagraph_9 : decode cX7_removeParagraph 9 = .ok (.ireturn, 1) := by decide +kernel
theorem dX7_removeParagraph_10 : decode cX7_removeParagraph 10 = .ok (.aload_n 0, 1) := by decide +kernel
theorem dX7_removeParagraph_11 : decode cX7_removeParagraph 11 = .ok (.invokevirtual 42, 3) := by decide +kernel
theorem dX7_removeParagraph_14 : decode cX7_removeParagraph 14 = .ok (.aload_n 0, 1) := by decide +kernel
theorem dX7_removeParagraph_15 : decode cX7_removeParagraph 15 = .ok (.getfield 12, 3) := by decide +kernel
theorem dX7_removeParagraph_18 : decode cX7_removeParagraph 18 = .ok (.getfield 104, 3) := by decide +kernel
theorem dX7_removeParagraph_21 : decode cX7_removeParagraph 21 = .ok (.iload_n 1, 1) := by decide +kernel
theorem dX7_removeParagraph_22 : decode cX7_removeParagraph 22 = .ok (.aaload, 1) := by decide +kernel
theorem dX7_removeParagraph_23 : decode cX7_removeParagraph 23 = .ok (.astore_n 2, 1) := by decide +kernel
theorem dX7_removeParagraph_24 : decode cX7_removeParagraph 24 = .ok (.aload_n 0, 1) := by decide +kernel
theorem dX7_removeParagraph_25 : decode cX7_removeParagraph 25 = .ok (.getfield 12, 3) := by decide +kernel
theorem dX7_removeParagraph_28 : decode cX7_removeParagraph 28 = .ok (.dup, 1) := by decide +kernel
theorem dX7_removeParagraph_29 : decode cX7_removeParagraph 29 = .ok (.getfield 101, 3) := by decide +kernel
theorem dX7_removeParagraph_32 : decode cX7_removeParagraph 32 = .ok (.iconst 1, 1) := by decide +kernel
theorem dX7_removeParagraph_33 : decode cX7_removeParagraph 33 = .ok (.isub, 1) := by decide +kernel
theorem dX7_removeParagraph_34 : decode cX7_removeParagraph 34 = .ok (.putfield 101, 3) := by decide +kernel
theorem dX7_removeParagraph_37 : decode cX7_removeParagraph 37 = .ok (.iload_n 1, 1) := by decide +kernel
theorem dX7_removeParagraph_38 : decode cX7_removeParagraph 38 = .ok (.istore_n 3, 1) := by decide +kernel
theorem dX7_removeParagraph_39 : decode cX7_removeParagraph 39 = .ok (.iload_n 3, 1) := by decide +kernel
theorem dX7_removeParagraph_40 : decode cX7_removeParagraph 40 = .ok (.aload_n 0, 1) := by decide +kernel
theorem dX7_removeParagraph_41 : decode cX7_removeParagraph 41 = .ok (.getfield 12, 3) := by decide +kernel
theorem dX7_removeParagraph_44 : decode cX7_removeParagraph 44 = .ok (.getfield 101, 3) := by decide +kernel
theorem dX7_removeParagraph_47 : decode cX7_removeParagraph 47 = .ok (.if_icmp .ge 29, 3) := by decide +kernel
theorem dX7_removeParagraph_50 : decode cX7_removeParagraph 50 = .ok (.aload_n 0, 1) := by decide +kernel
theorem dX7_removeParagraph_51 : decode cX7_removeParagraph 51 = .ok (.getfield 12, 3) := by decide +kernel
theorem dX7_removeParagraph_54 : decode cX7_removeParagraph 54 = .ok (.getfield 104, 3) := by decide +kernel
theorem dX7_removeParagraph_57 : decode cX7_removeParagraph 57 = .ok (.iload_n 3, 1) := by decide +kernel
theorem dX7_removeParagraph_58 : decode cX7_removeParagraph 58 = .ok (.aload_n 0, 1) := by decide +kernel
theorem dX7_removeParagraph_59 : decode cX7_removeParagraph 59 = .ok (.getfield 12, 3) := by decide +kernel
theorem dX7_removeParagraph_62 : decode cX7_removeParagraph 62 = .ok (.getfield 104, 3) := by decide +kernel
theorem dX7_removeParagraph_65 : decode cX7_removeParagraph 65 = .ok (.iload_n 3, 1) := by decide +kernel
theorem dX7_removeParagraph_66 : decode cX7_removeParagraph 66 = .ok (.iconst 1, 1) := by decide +kernel
theorem dX7_removeParagraph_67 : decode cX7_removeParagraph 67 = .ok (.iadd, 1) := by decide +kernel
theorem dX7_removeParagraph_68 : decode cX7_removeParagraph 68 = .ok (.aaload, 1) := by decide +kernel
theorem dX7_removeParagraph_69 : decode cX7_removeParagraph 69 = .ok (.aastore, 1) := by decide +kernel
theorem dX7_removeParagraph_70 : decode cX7_removeParagraph 70 = .ok (.iinc 3 1, 3) := by decide +kernel
theorem dX7_removeParagraph_73 : decode cX7_removeParagraph 73 = .ok (.goto (-34), 3) := by decide +kernel
theorem dX7_removeParagraph_76 : decode cX7_removeParagraph 76 = .ok (.aload_n 0, 1) := by decide +kernel
theorem dX7_removeParagraph_77 : decode cX7_removeParagraph 77 = .ok (.getfield 12, 3) := by decide +kernel
theorem dX7_removeParagraph_80 : decode cX7_removeParagraph 80 = .ok (.getfield 104, 3) := by decide +kernel
theorem dX7_removeParagraph_83 : decode cX7_removeParagraph 83 = .ok (.aload_n 0, 1) := by decide +kernel
theorem dX7_removeParagraph_84 : decode cX7_removeParagraph 84 = .ok (.getfield 12, 3) := by decide +kernel
theorem dX7_removeParagraph_87 : decode cX7_removeParagraph 87 = .ok (.getfield 101, 3) := by decide +kernel
theorem dX7_removeParagraph_90 : decode cX7_removeParagraph 90 = .ok (.aload_n 2, 1) := by decide +kernel
theorem dX7_removeParagraph_91 : decode cX7_removeParagraph 91 = .ok (.aastore, 1) := by decide +kernel
theorem dX7_removeParagraph_92 : decode cX7_removeParagraph 92 = .ok (.aload_n 0, 1) := by decide +kernel
theorem dX7_removeParagraph_93 : decode cX7_removeParagraph 93 = .ok (.getfield 12, 3) := by decide +kernel
theorem dX7_removeParagraph_96 : decode cX7_removeParagraph 96 = .ok (.getfield 101, 3) := by decide +kernel
theorem dX7_removeParagraph_99 : decode cX7_removeParagraph 99 = .ok (.ireturn, 1) := by decide +kernel
theorem dX7_setStyle_0 : decode cX7_setStyle 0 = .ok (.aload_n 0, 1) := by decide +kernel
theorem dX7_setStyle_1 : decode cX7_setStyle 1 = .ok (.iload_n 1, 1) := by decide +kernel
theorem dX7_setStyle_2 : decode cX7_setStyle 2 = .ok (.invokevirtual 116, 3) := by decide +kernel
theorem dX7_setStyle_5 : decode cX7_setStyle 5 = .ok (.ifCond .eq 11, 3) := by decide +kernel
theorem dX7_setStyle_8 : decode cX7_setStyle 8 = .ok (.aload_n 0, 1) := by decide +kernel
theorem dX7_setStyle_9 : decode cX7_setStyle 9 = .ok (.iload_n 2, 1) := by decide +kernel
theorem dX7_setStyle_10 : decode cX7_setStyle 10 = .ok (.invokevirtual 52, 3) := by decide +kernel
theorem dX7_setStyle_13 : decode cX7_setStyle 13 = .ok (.ifCond .ne 5, 3) := by decide +kernel
theorem dX7_setStyle_16 : decode cX7_setStyle 16 = .ok (.iconst (-1), 1) := by decide +kernel
theorem dX7_setStyle_17 : decode cX7_setStyle 17 = .ok (.ireturn, 1) := by decide +kernel
theorem dX7_setStyle_18 : decode cX7_setStyle 18 = .ok (.aload_n 0, 1) := by decide +kernel
theorem dX7_setStyle_19 : decode cX7_setStyle 19 = .ok (.invokevirtual 42, 3) := by decide +kernel
theorem dX7_setStyle_22 : decode cX7_setStyle 22 = .ok (.aload_n 0, 1) := by decide +kernel
theorem dX7_setStyle_23 : decode cX7_setStyle 23 = .ok (.getfield 12, 3) := by decide +kernel
theorem dX7_setStyle_26 : decode cX7_setStyle 26 = .ok (.getfield 104, 3) := by decide +kernel
theorem dX7_setStyle_29 : decode cX7_setStyle 29 = .ok (.iload_n 1, 1) := by decide +kernel
theorem dX7_setStyle_30 : decode cX7_setStyle 30 = .ok (.aaload, 1) := by decide +kernel
theorem dX7_setStyle_31 : decode cX7_setStyle 31 = .ok (.getfield 108, 3) := by decide +kernel
theorem dX7_setStyle_34 : decode cX7_setStyle 34 = .ok (.istore_n 3, 1) := by decide +kernel
theorem dX7_setStyle_35 : decode cX7_setStyle 35 = .ok (.aload_n 0, 1) := by decide +kernel
theorem dX7_setStyle_36 : decode cX7_setStyle 36 = .ok (.getfield 12, 3) := by decide +kernel
theorem dX7_setStyle_39 : decode cX7_setStyle 39 = .ok (.getfield 104, 3) := by decide +kernel
theorem dX7_setStyle_42 : decode cX7_setStyle 42 = .ok (.iload_n 1, 1) := by decide +kernel
theorem dX7_setStyle_43 : decode cX7_setStyle 43 = .ok (.aaload, 1) := by decide +kernel
theorem dX7_setStyle_44 : decode cX7_setStyle 44 = .ok (.iload_n 2, 1) := by decide +kernel
theorem dX7_setStyle_45 : decode cX7_setStyle 45 = .ok (.putfield 108, 3) := by decide +kernel
theorem dX7_setStyle_48 : decode cX7_setStyle 48 = .ok (.iload_n 3, 1) := by decide +kernel
theorem dX7_setStyle_49 : decode cX7_setStyle 49 = .ok (.ireturn, 1) := by decide +kernel
theorem dX7_addWord_0 : decode cX7_addWord 0 = .ok (.aload_n 0, 1) := by decide +kernel
theorem dX7_addWord_1 : decode cX7_addWord 1 = .ok (.iload_n 1, 1) := by decide +kernel
theorem dX7_addWord_2 : decode cX7_addWord 2 = .ok (.invokevirtual 116, 3) := by decide +kernel
theorem dX7_addWord_5 : decode cX7_addWord 5 = .ok (.ifCond .eq 33, 3) := by decide +kernel
theorem dX7_addWord_8 : decode cX7_addWord 8 = .ok (.iload_n 2, 1) := by decide +kernel
theorem dX7_addWord_9 : decode cX7_addWord 9 = .ok (.iconst 0, 1) := by decide +kernel
theorem dX7_addWord_10 : decode cX7_addWord 10 = .ok (.iconst 1, 1) := by decide +kernel
theorem dX7_addWord_11 : decode cX7_addWord 11 = .ok (.invokestatic 38, 3) := by decide +kernel
theorem dX7_addWord_14 : decode cX7_addWord 14 = .ok (.ifCond .eq 24, 3) := by decide +kernel
theorem dX7_addWord_17 : decode cX7_addWord 17 = .ok (.iload_n 3, 1) := by decide +kernel
theorem dX7_addWord_18 : decode cX7_addWord 18 = .ok (.iconst 0, 1) := by decide +kernel
theorem dX7_addWord_19 : decode cX7_addWord 19 = .ok (.bipush 25, 2) := by decide +kernel
theorem dX7_addWord_21 : decode cX7_addWord 21 = .ok (.invokestatic 38, 3) := by decide +kernel
theorem dX7_addWord_24 : decode cX7_addWord 24 = .ok (.ifCond .eq 14, 3) := by decide +kernel
theorem dX7_addWord_27 : decode cX7_addWord 27 = .ok (.iload 4, 2) := by decide +kernel
theorem dX7_addWord_29 : decode cX7_addWord 29 = .ok (.iconst 1, 1) := by decide +kernel
theorem dX7_addWord_30 : decode cX7_addWord 30 = .ok (.bipush 30, 2) := by decide +kernel
theorem dX7_addWord_32 : decode cX7_addWord 32 = .ok (.invokestatic 38, 3) := by decide +kernel
theorem dX7_addWord_35 : decode cX7_addWord 35 = .ok (.ifCond .ne 5, 3) := by decide +kernel
theorem dX7_addWord_38 : decode cX7_addWord 38 = .ok (.iconst (-1), 1) := by decide +kernel
theorem dX7_addWord_39 : decode cX7_addWord 39 = .ok (.ireturn, 1) := by decide +kernel
theorem dX7_addWord_40 : decode cX7_addWord 40 = .ok (.aload_n 0, 1) := by decide +kernel
theorem dX7_addWord_41 : decode cX7_addWord 41 = .ok (.getfield 12, 3) := by decide +kernel
theorem dX7_addWord_44 : decode cX7_addWord 44 = .ok (.getfield 104, 3) := by decide +kernel
theorem dX7_addWord_47 : decode cX7_addWord 47 = .ok (.iload_n 1, 1) := by decide +kernel
theorem dX7_addWord_48 : decode cX7_addWord 48 = .ok (.aaload, 1) := by decide +kernel
theorem dX7_addWord_49 : decode cX7_addWord 49 = .ok (.astore 5, 2) := by decide +kernel
theorem dX7_addWord_51 : decode cX7_addWord 51 = .ok (.aload 5, 2) := by decide +kernel
theorem dX7_addWord_53 : decode cX7_addWord 53 = .ok (.getfield 113, 3) := by decide +kernel
theorem dX7_addWord_56 : decode cX7_addWord 56 = .ok (.iconst 1, 1) := by decide +kernel
theorem dX7_addWord_57 : decode cX7_addWord 57 = .ok (.iadd, 1) := by decide +kernel
theorem dX7_addWord_58 : decode cX7_addWord 58 = .ok (.iload 4, 2) := by decide +kernel
theorem dX7_addWord_60 : decode cX7_addWord 60 = .ok (.iadd, 1) := by decide +kernel
theorem dX7_addWord_61 : decode cX7_addWord 61 = .ok (.bipush 80, 2) := by decide +kernel
theorem dX7_addWord_63 : decode cX7_addWord 63 = .ok (.if_icmp .le 6, 3) := by decide +kernel
theorem dX7_addWord_66 : decode cX7_addWord 66 = .ok (.bipush (-3), 2) := by decide +kernel
theorem dX7_addWord_68 : decode cX7_addWord 68 = .ok (.ireturn, 1) := by decide +kernel
theorem dX7_addWord_69 : decode cX7_addWord 69 = .ok (.aload_n 0, 1) := by decide +kernel
theorem dX7_addWord_70 : decode cX7_addWord 70 = .ok (.invokevirtual 42, 3) := by decide +kernel
theorem dX7_addWord_73 : decode cX7_addWord 73 = .ok (.aload 5, 2) := by decide +kernel
theorem dX7_addWord_75 : decode cX7_addWord 75 = .ok (.iload_n 2, 1) := by decide +kernel
theorem dX7_addWord_76 : decode cX7_addWord 76 = .ok (.iconst 1, 1) := by decide +kernel
theorem dX7_addWord_77 : decode cX7_addWord 77 = .ok (.if_icmp .ne 8, 3) := by decide +kernel
theorem dX7_addWord_80 : decode cX7_addWord 80 = .ok (.bipush 9, 2) := by decide +kernel
theorem dX7_addWord_82 : decode cX7_addWord 82 = .ok (.goto 5, 3) := by decide +kernel
theorem dX7_addWord_85 : decode cX7_addWord 85 = .ok (.bipush 32, 2) := by decide +kernel
theorem dX7_addWord_87 : decode cX7_addWord 87 = .ok (.invokevirtual 122, 3) := by decide +kernel
theorem dX7_addWord_90 : decode cX7_addWord 90 = .ok (.iconst 0, 1) := by decide +kernel
theorem dX7_addWord_91 : decode cX7_addWord 91 = .ok (.istore 6, 2) := by decide +kernel
theorem dX7_addWord_93 : decode cX7_addWord 93 = .ok (.iload 6, 2) := by decide +kernel
theorem dX7_addWord_95 : decode cX7_addWord 95 = .ok (.iload 4, 2) := by decide +kernel
theorem dX7_addWord_97 : decode cX7_addWord 97 = .ok (.if_icmp .ge 18, 3) := by decide +kernel
theorem dX7_addWord_100 : decode cX7_addWord 100 = .ok (.aload 5, 2) := by decide +kernel
theorem dX7_addWord_102 : decode cX7_addWord 102 = .ok (.bipush 97, 2) := by decide +kernel
theorem dX7_addWord_104 : decode cX7_addWord 104 = .ok (.iload_n 3, 1) := by decide +kernel
theorem dX7_addWord_105 : decode cX7_addWord 105 = .ok (.iadd, 1) := by decide +kernel
theorem dX7_addWord_106 : decode cX7_addWord 106 = .ok (.invokevirtual 122, 3) := by decide +kernel
theorem dX7_addWord_109 : decode cX7_addWord 109 = .ok (.iinc 6 1, 3) := by decide +kernel
theorem dX7_addWord_112 : decode cX7_addWord 112 = .ok (.goto (-19), 3) := by decide +kernel
theorem dX7_addWord_115 : decode cX7_addWord 115 = .ok (.aload 5, 2) := by decide +kernel
theorem dX7_addWord_117 : decode cX7_addWord 117 = .ok (.getfield 113, 3) := by decide +kernel
theorem dX7_addWord_120 : decode cX7_addWord 120 = .ok (.ireturn, 1) := by decide +kernel
theorem dX7_addAmount_0 : decode cX7_addAmount 0 = .ok (.aload_n 0, 1) := by decide +kernel
theorem dX7_addAmount_1 : decode cX7_addAmount 1 = .ok (.iload_n 1, 1) := by decide +kernel
theorem dX7_addAmount_2 : decode cX7_addAmount 2 = .ok (.invokevirtual 116, 3) := by decide +kernel
theorem dX7_addAmount_5 : decode cX7_addAmount 5 = .ok (.ifCond .eq 13, 3) := by decide +kernel
theorem dX7_addAmount_8 : decode cX7_addAmount 8 = .ok (.iload_n 2, 1) := by decide +kernel
theorem dX7_addAmount_9 : decode cX7_addAmount 9 = .ok (.iconst 0, 1) := by decide +kernel
theorem dX7_addAmount_10 : decode cX7_addAmount 10 = .ok (.ldc 125, 2) := by decide +kernel
theorem dX7_addAmount_12 : decode cX7_addAmount 12 = .ok (.invokestatic 38, 3) := by decide +kernel
theorem dX7_addAmount_15 : decode cX7_addAmount 15 = .ok (.ifCond .ne 5, 3) := by decide +kernel
theorem dX7_addAmount_18 : decode cX7_addAmount 18 = .ok (.iconst (-1), 1) := by decide +kernel
theorem dX7_addAmount_19 : decode cX7_addAmount 19 = .ok (.ireturn, 1) := by decide +kernel
theorem dX7_addAmount_20 : decode cX7_addAmount 20 = .ok (.aload_n 0, 1) := by decide +kernel
theorem dX7_addAmount_21 : decode cX7_addAmount 21 = .ok (.getfield 12, 3) := by decide +kernel
theorem dX7_addAmount_24 : decode cX7_addAmount 24 = .ok (.getfield 104, 3) := by decide +kernel
theorem dX7_addAmount_27 : decode cX7_addAmount 27 = .ok (.iload_n 1, 1) := by decide +kernel
theorem dX7_addAmount_28 : decode cX7_addAmount 28 = .ok (.aaload, 1) := by decide +kernel
theorem dX7_addAmount_29 : decode cX7_addAmount 29 = .ok (.astore_n 3, 1) := by decide +kernel
theorem dX7_addAmount_30 : decode cX7_addAmount 30 = .ok (.iload_n 2, 1) := by decide +kernel
theorem dX7_addAmount_31 : decode cX7_addAmount 31 = .ok (.bipush 100, 2) := by decide +kernel
theorem dX7_addAmount_33 : decode cX7_addAmount 33 = .ok (.idiv, 1) := by decide +kernel
theorem dX7_addAmount_34 : decode cX7_addAmount 34 = .ok (.istore 4, 2) := by decide +kernel
theorem dX7_addAmount_36 : decode cX7_addAmount 36 = .ok (.aload_n 3, 1) := by decide +kernel
theorem dX7_addAmount_37 : decode cX7_addAmount 37 = .ok (.getfield 113, 3) := by decide +kernel
theorem dX7_addAmount_40 : decode cX7_addAmount 40 = .ok (.iconst 1, 1) := by decide +kernel
theorem dX7_addAmount_41 : decode cX7_addAmount 41 = .ok (.iadd, 1) := by decide +kernel
theorem dX7_addAmount_42 : decode cX7_addAmount 42 = .ok (.iload 4, 2) := by decide +kernel
theorem dX7_addAmount_44 : decode cX7_addAmount 44 = .ok (.invokestatic 126, 3) := by decide +kernel
theorem dX7_addAmount_47 : decode cX7_addAmount 47 = .ok (.iadd, 1) := by decide +kernel
theorem dX7_addAmount_48 : decode cX7_addAmount 48 = .ok (.iconst 3, 1) := by decide +kernel
theorem dX7_addAmount_49 : decode cX7_addAmount 49 = .ok (.iadd, 1) := by decide +kernel
theorem dX7_addAmount_50 : decode cX7_addAmount 50 = .ok (.bipush 80, 2) := by decide +kernel
theorem dX7_addAmount_52 : decode cX7_addAmount 52 = .ok (.if_icmp .le 6, 3) := by decide +kernel
theorem dX7_addAmount_55 : decode cX7_addAmount 55 = .ok (.bipush (-3), 2) := by decide +kernel
theorem dX7_addAmount_57 : decode cX7_addAmount 57 = .ok (.ireturn, 1) := by decide +kernel
theorem dX7_addAmount_58 : decode cX7_addAmount 58 = .ok (.aload_n 0, 1) := by decide +kernel
theorem dX7_addAmount_59 : decode cX7_addAmount 59 = .ok (.invokevirtual 42, 3) := by decide +kernel
theorem dX7_addAmount_62 : decode cX7_addAmount 62 = .ok (.aload_n 3, 1) := by decide +kernel
theorem dX7_addAmount_63 : decode cX7_addAmount 63 = .ok (.bipush 9, 2) := by decide +kernel
theorem dX7_addAmount_65 : decode cX7_addAmount 65 = .ok (.invokevirtual 122, 3) := by decide +kernel
theorem dX7_addAmount_68 : decode cX7_addAmount 68 = .ok (.sipush 10000, 3) := by decide +kernel
theorem dX7_addAmount_71 : decode cX7_addAmount 71 = .ok (.istore 5, 2) := by decide +kernel
theorem dX7_addAmount_73 : decode cX7_addAmount 73 = .ok (.iload 5, 2) := by decide +kernel
theorem dX7_addAmount_75 : decode cX7_addAmount 75 = .ok (.ifCond .le 41, 3) := by decide +kernel
theorem dX7_addAmount_78 : decode cX7_addAmount 78 = .ok (.iload 5, 2) := by decide +kernel
theorem dX7_addAmount_80 : decode cX7_addAmount 80 = .ok (.iconst 1, 1) := by decide +kernel
theorem dX7_addAmount_81 : decode cX7_addAmount 81 = .ok (.if_icmp .eq 10, 3) := by decide +kernel
theorem dX7_addAmount_84 : decode cX7_addAmount 84 = .ok (.iload 4, 2) := by decide +kernel
theorem dX7_addAmount_86 : decode cX7_addAmount 86 = .ok (.iload 5, 2) := by decide +kernel
theorem dX7_addAmount_88 : decode cX7_addAmount 88 = .ok (.if_icmp .lt 18, 3) := by decide +kernel
theorem dX7_addAmount_91 : decode cX7_addAmount 91 = .ok (.aload_n 3, 1) := by decide +kernel
theorem dX7_addAmount_92 : decode cX7_addAmount 92 = .ok (.bipush 48, 2) := by decide +kernel
theorem dX7_addAmount_94 : decode cX7_addAmount 94 = .ok (.iload 4, 2) := by decide +kernel
theorem dX7_addAmount_96 : decode cX7_addAmount 96 = .ok (.iload 5, 2) := by decide +kernel
theorem dX7_addAmount_98 : decode cX7_addAmount 98 = .ok (.idiv, 1) := by decide +kernel
theorem dX7_addAmount_99 : decode cX7_addAmount 99 = .ok (.bipush 10, 2) := by decide +kernel
theorem dX7_addAmount_101 : decode cX7_addAmount 101 = .ok (.irem, 1) := by decide +kernel
theorem dX7_addAmount_102 : decode cX7_addAmount 102 = .ok (.iadd, 1) := by decide +kernel
theorem dX7_addAmount_103 : decode cX7_addAmount 103 = .ok (.invokevirtual 122, 3) := by decide +kernel
theorem dX7_addAmount_106 : decode cX7_addAmount 106 = .ok (.iload 5, 2) := by decide +kernel
theorem dX7_addAmount_108 : decode cX7_addAmount 108 = .ok (.bipush 10, 2) := by decide +kernel
theorem dX7_addAmount_110 : decode cX7_addAmount 110 = .ok (.idiv, 1) := by decide +kernel
theorem dX7_addAmount_111 : decode cX7_addAmount 111 = .ok (.istore 5, 2) := by decide +kernel
theorem dX7_addAmount_113 : decode cX7_addAmount 113 = .ok (.goto (-40), 3) := by decide +kernel
theorem dX7_addAmount_116 : decode cX7_addAmount 116 = .ok (.aload_n 3, 1) := by decide +kernel
theorem dX7_addAmount_117 : decode cX7_addAmount 117 = .ok (.bipush 46, 2) := by decide +kernel
theorem dX7_addAmount_119 : decode cX7_addAmount 119 = .ok (.invokevirtual 122, 3) := by decide +kernel
theorem dX7_addAmount_122 : decode cX7_addAmount 122 = .ok (.aload_n 3, 1) := by decide +kernel
theorem dX7_addAmount_123 : decode cX7_addAmount 123 = .ok (.bipush 48, 2) := by decide +kernel
theorem dX7_addAmount_125 : decode cX7_addAmount 125 = .ok (.iload_n 2, 1) := by decide +kernel
theorem dX7_addAmount_126 : decode cX7_addAmount 126 = .ok (.bipush 10, 2) := by decide +kernel
theorem dX7_addAmount_128 : decode cX7_addAmount 128 = .ok (.idiv, 1) := by decide +kernel
theorem dX7_addAmount_129 : decode cX7_addAmount 129 = .ok (.bipush 10, 2) := by decide +kernel
theorem dX7_addAmount_131 : decode cX7_addAmount 131 = .ok (.irem, 1) := by decide +kernel
theorem dX7_addAmount_132 : decode cX7_addAmount 132 = .ok (.iadd, 1) := by decide +kernel
theorem dX7_addAmount_133 : decode cX7_addAmount 133 = .ok (.invokevirtual 122, 3) := by decide +kernel
theorem dX7_addAmount_136 : decode cX7_addAmount 136 = .ok (.aload_n 3, 1) := by decide +kernel
theorem dX7_addAmount_137 : decode cX7_addAmount 137 = .ok (.bipush 48, 2) := by decide +kernel
theorem dX7_addAmount_139 : decode cX7_addAmount 139 = .ok (.iload_n 2, 1) := by decide +kernel
theorem dX7_addAmount_140 : decode cX7_addAmount 140 = .ok (.bipush 10, 2) := by decide +kernel
theorem dX7_addAmount_142 : decode cX7_addAmount 142 = .ok (.irem, 1) := by decide +kernel
theorem dX7_addAmount_143 : decode cX7_addAmount 143 = .ok (.iadd, 1) := by decide +kernel
theorem dX7_addAmount_144 : decode cX7_addAmount 144 = .ok (.invokevirtual 122, 3) := by decide +kernel
theorem dX7_addAmount_147 : decode cX7_addAmount 147 = .ok (.aload_n 3, 1) := by decide +kernel
theorem dX7_addAmount_148 : decode cX7_addAmount 148 = .ok (.getfield 113, 3) := by decide +kernel
theorem dX7_addAmount_151 : decode cX7_addAmount 151 = .ok (.ireturn, 1) := by decide +kernel
theorem dX7_count_0 : decode cX7_count 0 = .ok (.iload_n 1, 1) := by decide +kernel
theorem dX7_count_1 : decode cX7_count 1 = .ok (.tableswitch 118 0 5 #[39, 47, 55, 63, 108, 113], 39) := by decide +kernel
theorem dX7_count_40 : decode cX7_count 40 = .ok (.aload_n 0, 1) := by decide +kernel
theorem dX7_count_41 : decode cX7_count 41 = .ok (.getfield 12, 3) := by decide +kernel
theorem dX7_count_44 : decode cX7_count 44 = .ok (.getfield 45, 3) := by decide +kernel
theorem dX7_count_47 : decode cX7_count 47 = .ok (.ireturn, 1) := by decide +kernel
theorem dX7_count_48 : decode cX7_count 48 = .ok (.aload_n 0, 1) := by decide +kernel
theorem dX7_count_49 : decode cX7_count 49 = .ok (.getfield 12, 3) := by decide +kernel
theorem dX7_count_52 : decode cX7_count 52 = .ok (.getfield 49, 3) := by decide +kernel
theorem dX7_count_55 : decode cX7_count 55 = .ok (.ireturn, 1) := by decide +kernel
theorem dX7_count_56 : decode cX7_count 56 = .ok (.aload_n 0, 1) := by decide +kernel
theorem dX7_count_57 : decode cX7_count 57 = .ok (.getfield 12, 3) := by decide +kernel
theorem dX7_count_60 : decode cX7_count 60 = .ok (.getfield 101, 3) := by decide +kernel
theorem dX7_count_63 : decode cX7_count 63 = .ok (.ireturn, 1) := by decide +kernel
theorem dX7_count_64 : decode cX7_count 64 = .ok (.iconst 0, 1) := by decide +kernel
theorem dX7_count_65 : decode cX7_count 65 = .ok (.istore_n 2, 1) := by decide +kernel
theorem dX7_count_66 : decode cX7_count 66 = .ok (.iconst 0, 1) := by decide +kernel
theorem dX7_count_67 : decode cX7_count 67 = .ok (.istore_n 3, 1) := by decide +kernel
theorem dX7_count_68 : decode cX7_count 68 = .ok (.iload_n 3, 1) := by decide +kernel
theorem dX7_count_69 : decode cX7_count 69 = .ok (.aload_n 0, 1) := by decide +kernel
theorem dX7_count_70 : decode cX7_count 70 = .ok (.getfield 12, 3) := by decide +kernel
theorem dX7_count_73 : decode cX7_count 73 = .ok (.getfield 101, 3) := by decide +kernel
theorem dX7_count_76 : decode cX7_count 76 = .ok (.if_icmp .ge 31, 3) := by decide +kernel
theorem dX7_count_79 : decode cX7_count 79 = .ok (.aload_n 0, 1) := by decide +kernel
theorem dX7_count_80 : decode cX7_count 80 = .ok (.iload_n 3, 1) := by decide +kernel
theorem dX7_count_81 : decode cX7_count 81 = .ok (.aload_n 0, 1) := by decide +kernel
theorem dX7_count_82 : decode cX7_count 82 = .ok (.getfield 12, 3) := by decide +kernel
theorem dX7_count_85 : decode cX7_count 85 = .ok (.getfield 45, 3) := by decide +kernel
theorem dX7_count_88 : decode cX7_count 88 = .ok (.invokevirtual 129, 3) := by decide +kernel
theorem dX7_count_91 : decode cX7_count 91 = .ok (.iload_n 2, 1) := by decide +kernel
theorem dX7_count_92 : decode cX7_count 92 = .ok (.aload_n 0, 1) := by decide +kernel
theorem dX7_count_93 : decode cX7_count 93 = .ok (.getfield 34, 3) := by decide +kernel
theorem dX7_count_96 : decode cX7_count 96 = .ok (.invokevirtual 133, 3) := by decide +kernel
theorem dX7_count_99 : decode cX7_count 99 = .ok (.iadd, 1) := by decide +kernel
theorem dX7_count_100 : decode cX7_count 100 = .ok (.istore_n 2, 1) := by decide +kernel
theorem dX7_count_101 : decode cX7_count 101 = .ok (.iinc 3 1, 3) := by decide +kernel
theorem dX7_count_104 : decode cX7_count 104 = .ok (.goto (-36), 3) := by decide +kernel
theorem dX7_count_107 : decode cX7_count 107 = .ok (.iload_n 2, 1) := by decide +kernel
theorem dX7_count_108 : decode cX7_count 108 = .ok (.ireturn, 1) := by decide +kernel
theorem dX7_count_109 : decode cX7_count 109 = .ok (.aload_n 0, 1) := by decide +kernel
theorem dX7_count_110 : decode cX7_count 110 = .ok (.getfield 86, 3) := by decide +kernel
theorem dX7_count_113 : decode cX7_count 113 = .ok (.ireturn, 1) := by decide +kernel
theorem dX7_count_114 : decode cX7_count 114 = .ok (.aload_n 0, 1) := by decide +kernel
theorem dX7_count_115 : decode cX7_count 115 = .ok (.getfield 137, 3) := by decide +kernel
theorem dX7_count_118 : decode cX7_count 118 = .ok (.ireturn, 1) := by decide +kernel
theorem dX7_count_119 : decode cX7_count 119 = .ok (.iconst (-1), 1) := by decide +kernel
theorem dX7_count_120 : decode cX7_count 120 = .ok (.ireturn, 1) := by decide +kernel
theorem dX7_style_0 : decode cX7_style 0 = .ok (.aload_n 0, 1) := by decide +kernel
theorem dX7_style_1 : decode cX7_style 1 = .ok (.iload_n 1, 1) := by decide +kernel
theorem dX7_style_2 : decode cX7_style 2 = .ok (.invokevirtual 52, 3) := by decide +kernel
theorem dX7_style_5 : decode cX7_style 5 = .ok (.ifCond .ne 5, 3) := by decide +kernel
theorem dX7_style_8 : decode cX7_style 8 = .ok (.iconst (-1), 1) := by decide +kernel
theorem dX7_style_9 : decode cX7_style 9 = .ok (.ireturn, 1) := by decide +kernel
theorem dX7_style_10 : decode cX7_style 10 = .ok (.aload_n 0, 1) := by decide +kernel
theorem dX7_style_11 : decode cX7_style 11 = .ok (.getfield 12, 3) := by decide +kernel
theorem dX7_style_14 : decode cX7_style 14 = .ok (.getfield 56, 3) := by decide +kernel
theorem dX7_style_17 : decode cX7_style 17 = .ok (.iload_n 1, 1) := by decide +kernel
theorem dX7_style_18 : decode cX7_style 18 = .ok (.aaload, 1) := by decide +kernel
theorem dX7_style_19 : decode cX7_style 19 = .ok (.astore_n 3, 1) := by decide +kernel
theorem dX7_style_20 : decode cX7_style 20 = .ok (.iload_n 2, 1) := by decide +kernel
theorem dX7_style_21 : decode cX7_style 21 = .ok (.tableswitch 63 0 3 #[31, 36, 41, 48], 31) := by decide +kernel
theorem dX7_style_52 : decode cX7_style 52 = .ok (.aload_n 3, 1) := by decide +kernel
theorem dX7_style_53 : decode cX7_style 53 = .ok (.getfield 60, 3) := by decide +kernel
theorem dX7_style_56 : decode cX7_style 56 = .ok (.ireturn, 1) := by decide +kernel
theorem dX7_style_57 : decode cX7_style 57 = .ok (.aload_n 3, 1) := by decide +kernel
theorem dX7_style_58 : decode cX7_style 58 = .ok (.getfield 65, 3) := by decide +kernel
theorem dX7_style_61 : decode cX7_style 61 = .ok (.ireturn, 1) := by decide +kernel
theorem dX7_style_62 : decode cX7_style 62 = .ok (.aload_n 3, 1) := by decide +kernel
theorem dX7_style_63 : decode cX7_style 63 = .ok (.bipush 81, 2) := by decide +kernel
theorem dX7_style_65 : decode cX7_style 65 = .ok (.invokevirtual 71, 3) := by decide +kernel
theorem dX7_style_68 : decode cX7_style 68 = .ok (.ireturn, 1) := by decide +kernel
theorem dX7_style_69 : decode cX7_style 69 = .ok (.aload_n 3, 1) := by decide +kernel
theorem dX7_style_70 : decode cX7_style 70 = .ok (.invokevirtual 140, 3) := by decide +kernel
theorem dX7_style_73 : decode cX7_style 73 = .ok (.aload_n 0, 1) := by decide +kernel
theorem dX7_style_74 : decode cX7_style 74 = .ok (.getfield 12, 3) := by decide +kernel
theorem dX7_style_77 : decode cX7_style 77 = .ok (.getfield 49, 3) := by decide +kernel
theorem dX7_style_80 : decode cX7_style 80 = .ok (.invokestatic 143, 3) := by decide +kernel
theorem dX7_style_83 : decode cX7_style 83 = .ok (.ireturn, 1) := by decide +kernel
theorem dX7_style_84 : decode cX7_style 84 = .ok (.iconst (-1), 1) := by decide +kernel
theorem dX7_style_85 : decode cX7_style 85 = .ok (.ireturn, 1) := by decide +kernel
theorem dX7_stop_0 : decode cX7_stop 0 = .ok (.aload_n 0, 1) := by decide +kernel
theorem dX7_stop_1 : decode cX7_stop 1 = .ok (.iload_n 1, 1) := by decide +kernel
theorem dX7_stop_2 : decode cX7_stop 2 = .ok (.invokevirtual 52, 3) := by decide +kernel
theorem dX7_stop_5 : decode cX7_stop 5 = .ok (.ifCond .eq 16, 3) := by decide +kernel
theorem dX7_stop_8 : decode cX7_stop 8 = .ok (.iload_n 2, 1) := by decide +kernel
theorem dX7_stop_9 : decode cX7_stop 9 = .ok (.ifCond .lt 12, 3) := by decide +kernel
theorem dX7_stop_12 : decode cX7_stop 12 = .ok (.iload_n 3, 1) := by decide +kernel
theorem dX7_stop_13 : decode cX7_stop 13 = .ok (.iconst 0, 1) := by decide +kernel
theorem dX7_stop_14 : decode cX7_stop 14 = .ok (.iconst 2, 1) := by decide +kernel
theorem dX7_stop_15 : decode cX7_stop 15 = .ok (.invokestatic 38, 3) := by decide +kernel
theorem dX7_stop_18 : decode cX7_stop 18 = .ok (.ifCond .ne 5, 3) := by decide +kernel
theorem dX7_stop_21 : decode cX7_stop 21 = .ok (.iconst (-1), 1) := by decide +kernel
theorem dX7_stop_22 : decode cX7_stop 22 = .ok (.ireturn, 1) := by decide +kernel
theorem dX7_stop_23 : decode cX7_stop 23 = .ok (.aload_n 0, 1) := by decide +kernel
theorem dX7_stop_24 : decode cX7_stop 24 = .ok (.getfield 12, 3) := by decide +kernel
theorem dX7_stop_27 : decode cX7_stop 27 = .ok (.getfield 56, 3) := by decide +kernel
theorem dX7_stop_30 : decode cX7_stop 30 = .ok (.iload_n 1, 1) := by decide +kernel
theorem dX7_stop_31 : decode cX7_stop 31 = .ok (.aaload, 1) := by decide +kernel
theorem dX7_stop_32 : decode cX7_stop 32 = .ok (.astore 4, 2) := by decide +kernel
theorem dX7_stop_34 : decode cX7_stop 34 = .ok (.aload 4, 2) := by decide +kernel
theorem dX7_stop_36 : decode cX7_stop 36 = .ok (.iload_n 2, 1) := by decide +kernel
theorem dX7_stop_37 : decode cX7_stop 37 = .ok (.invokevirtual 79, 3) := by decide +kernel
theorem dX7_stop_40 : decode cX7_stop 40 = .ok (.istore 5, 2) := by decide +kernel
theorem dX7_stop_42 : decode cX7_stop 42 = .ok (.iload 5, 2) := by decide +kernel
theorem dX7_stop_44 : decode cX7_stop 44 = .ok (.bipush (-9), 2) := by decide +kernel
theorem dX7_stop_46 : decode cX7_stop 46 = .ok (.if_icmp .eq 7, 3) := by decide +kernel
theorem dX7_stop_49 : decode cX7_stop 49 = .ok (.iload_n 3, 1) := by decide +kernel
theorem dX7_stop_50 : decode cX7_stop 50 = .ok (.ifCond .ne 6, 3) := by decide +kernel
theorem dX7_stop_53 : decode cX7_stop 53 = .ok (.iload 5, 2) := by decide +kernel
theorem dX7_stop_55 : decode cX7_stop 55 = .ok (.ireturn, 1) := by decide +kernel
theorem dX7_stop_56 : decode cX7_stop 56 = .ok (.iload_n 3, 1) := by decide +kernel
theorem dX7_stop_57 : decode cX7_stop 57 = .ok (.iconst 1, 1) := by decide +kernel
theorem dX7_stop_58 : decode cX7_stop 58 = .ok (.if_icmp .ne 13, 3) := by decide +kernel
theorem dX7_stop_61 : decode cX7_stop 61 = .ok (.aload 4, 2) := by decide +kernel
theorem dX7_stop_63 : decode cX7_stop 63 = .ok (.iload 5, 2) := by decide +kernel
theorem dX7_stop_65 : decode cX7_stop 65 = .ok (.invokevirtual 147, 3) := by decide +kernel
theorem dX7_stop_68 : decode cX7_stop 68 = .ok (.goto 10, 3) := by decide +kernel
theorem dX7_stop_71 : decode cX7_stop 71 = .ok (.aload 4, 2) := by decide +kernel
theorem dX7_stop_73 : decode cX7_stop 73 = .ok (.iload 5, 2) := by decide +kernel
theorem dX7_stop_75 : decode cX7_stop 75 = .ok (.invokevirtual 150, 3) := by decide +kernel
theorem dX7_stop_78 : decode cX7_stop 78 = .ok (.ireturn, 1) := by decide +kernel
theorem dX7_character_0 : decode cX7_character 0 = .ok (.aload_n 0, 1) := by decide +kernel
theorem dX7_character_1 : decode cX7_character 1 = .ok (.iload_n 1, 1) := by decide +kernel
theorem dX7_character_2 : decode cX7_character 2 = .ok (.invokevirtual 116, 3) := by decide +kernel
theorem dX7_character_5 : decode cX7_character 5 = .ok (.ifCond .eq 7, 3) := by decide +kernel
theorem dX7_character_8 : decode cX7_character 8 = .ok (.iload_n 2, 1) := by decide +kernel
theorem dX7_character_9 : decode cX7_character 9 = .ok (.ifCond .ge 5, 3) := by decide +kernel
theorem dX7_character_12 : decode cX7_character 12 = .ok (.iconst (-1), 1) := by decide +kernel
theorem dX7_character_13 : decode cX7_character 13 = .ok (.ireturn, 1) := by decide +kernel
theorem dX7_character_14 : decode cX7_character 14 = .ok (.aload_n 0, 1) := by decide +kernel
theorem dX7_character_15 : decode cX7_character 15 = .ok (.getfield 12, 3) := by decide +kernel
theorem dX7_character_18 : decode cX7_character 18 = .ok (.getfield 104, 3) := by decide +kernel
theorem dX7_character_21 : decode cX7_character 21 = .ok (.iload_n 1, 1) := by decide +kernel
theorem dX7_character_22 : decode cX7_character 22 = .ok (.aaload, 1) := by decide +kernel
theorem dX7_character_23 : decode cX7_character 23 = .ok (.iload_n 2, 1) := by decide +kernel
theorem dX7_character_24 : decode cX7_character 24 = .ok (.invokevirtual 153, 3) := by decide +kernel
theorem dX7_character_27 : decode cX7_character 27 = .ok (.ireturn, 1) := by decide +kernel
theorem dX7_lines_0 : decode cX7_lines 0 = .ok (.aload_n 0, 1) := by decide +kernel
theorem dX7_lines_1 : decode cX7_lines 1 = .ok (.iload_n 1, 1) := by decide +kernel
theorem dX7_lines_2 : decode cX7_lines 2 = .ok (.invokevirtual 116, 3) := by decide +kernel
theorem dX7_lines_5 : decode cX7_lines 5 = .ok (.ifCond .ne 5, 3) := by decide +kernel
theorem dX7_lines_8 : decode cX7_lines 8 = .ok (.iconst (-1), 1) := by decide +kernel
theorem dX7_lines_9 : decode cX7_lines 9 = .ok (.ireturn, 1) := by decide +kernel
theorem dX7_lines_10 : decode cX7_lines 10 = .ok (.aload_n 0, 1) := by decide +kernel
theorem dX7_lines_11 : decode cX7_lines 11 = .ok (.iload_n 1, 1) := by decide +kernel
theorem dX7_lines_12 : decode cX7_lines 12 = .ok (.aload_n 0, 1) := by decide +kernel
theorem dX7_lines_13 : decode cX7_lines 13 = .ok (.getfield 12, 3) := by decide +kernel
theorem dX7_lines_16 : decode cX7_lines 16 = .ok (.getfield 45, 3) := by decide +kernel
theorem dX7_lines_19 : decode cX7_lines 19 = .ok (.invokevirtual 129, 3) := by decide +kernel
theorem dX7_lines_22 : decode cX7_lines 22 = .ok (.aload_n 0, 1) := by decide +kernel
theorem dX7_lines_23 : decode cX7_lines 23 = .ok (.getfield 34, 3) := by decide +kernel
theorem dX7_lines_26 : decode cX7_lines 26 = .ok (.invokevirtual 133, 3) := by decide +kernel
theorem dX7_lines_29 : decode cX7_lines 29 = .ok (.ireturn, 1) := by decide +kernel
theorem dX7_field_0 : decode cX7_field 0 = .ok (.aload_n 0, 1) := by decide +kernel
theorem dX7_field_1 : decode cX7_field 1 = .ok (.iload_n 1, 1) := by decide +kernel
theorem dX7_field_2 : decode cX7_field 2 = .ok (.invokevirtual 116, 3) := by decide +kernel
theorem dX7_field_5 : decode cX7_field 5 = .ok (.ifCond .eq 16, 3) := by decide +kernel
theorem dX7_field_8 : decode cX7_field 8 = .ok (.iload_n 2, 1) := by decide +kernel
theorem dX7_field_9 : decode cX7_field 9 = .ok (.ifCond .lt 12, 3) := by decide +kernel
theorem dX7_field_12 : decode cX7_field 12 = .ok (.iload_n 3, 1) := by decide +kernel
theorem dX7_field_13 : decode cX7_field 13 = .ok (.iconst 0, 1) := by decide +kernel
theorem dX7_field_14 : decode cX7_field 14 = .ok (.iconst 5, 1) := by decide +kernel
theorem dX7_field_15 : decode cX7_field 15 = .ok (.invokestatic 38, 3) := by decide +kernel
theorem dX7_field_18 : decode cX7_field 18 = .ok (.ifCond .ne 5, 3) := by decide +kernel
theorem dX7_field_21 : decode cX7_field 21 = .ok (.iconst (-1), 1) := by decide +kernel
theorem dX7_field_22 : decode cX7_field 22 = .ok (.ireturn, 1) := by decide +kernel
theorem dX7_field_23 : decode cX7_field 23 = .ok (.aload_n 0, 1) := by decide +kernel
theorem dX7_field_24 : decode cX7_field 24 = .ok (.iload_n 1, 1) := by decide +kernel
theorem dX7_field_25 : decode cX7_field 25 = .ok (.aload_n 0, 1) := by decide +kernel
theorem dX7_field_26 : decode cX7_field 26 = .ok (.getfield 12, 3) := by decide +kernel
theorem dX7_field_29 : decode cX7_field 29 = .ok (.getfield 45, 3) := by decide +kernel
theorem dX7_field_32 : decode cX7_field 32 = .ok (.invokevirtual 129, 3) := by decide +kernel
theorem dX7_field_35 : decode cX7_field 35 = .ok (.iload_n 2, 1) := by decide +kernel
theorem dX7_field_36 : decode cX7_field 36 = .ok (.aload_n 0, 1) := by decide +kernel
theorem dX7_field_37 : decode cX7_field 37 = .ok (.getfield 34, 3) := by decide +kernel
theorem dX7_field_40 : decode cX7_field 40 = .ok (.getfield 180, 3) := by decide +kernel
theorem dX7_field_43 : decode cX7_field 43 = .ok (.getfield 184, 3) := by decide +kernel
theorem dX7_field_46 : decode cX7_field 46 = .ok (.if_icmp .ge 9, 3) := by decide +kernel
theorem dX7_field_49 : decode cX7_field 49 = .ok (.iload_n 2, 1) := by decide +kernel
theorem dX7_field_50 : decode cX7_field 50 = .ok (.bipush 81, 2) := by decide +kernel
theorem dX7_field_52 : decode cX7_field 52 = .ok (.if_icmp .lt 6, 3) := by decide +kernel
theorem dX7_field_55 : decode cX7_field 55 = .ok (.bipush (-9), 2) := by decide +kernel
theorem dX7_field_57 : decode cX7_field 57 = .ok (.ireturn, 1) := by decide +kernel
theorem dX7_field_58 : decode cX7_field 58 = .ok (.aload_n 0, 1) := by decide +kernel
theorem dX7_field_59 : decode cX7_field 59 = .ok (.getfield 34, 3) := by decide +kernel
theorem dX7_field_62 : decode cX7_field 62 = .ok (.getfield 189, 3) := by decide +kernel
theorem dX7_field_65 : decode cX7_field 65 = .ok (.iload_n 2, 1) := by decide +kernel
theorem dX7_field_66 : decode cX7_field 66 = .ok (.aaload, 1) := by decide +kernel
theorem dX7_field_67 : decode cX7_field 67 = .ok (.iload_n 3, 1) := by decide +kernel
theorem dX7_field_68 : decode cX7_field 68 = .ok (.iaload, 1) := by decide +kernel
theorem dX7_field_69 : decode cX7_field 69 = .ok (.ireturn, 1) := by decide +kernel
theorem dX7_holds_0 : decode cX7_holds 0 = .ok (.aload_n 0, 1) := by decide +kernel
theorem dX7_holds_1 : decode cX7_holds 1 = .ok (.iload_n 1, 1) := by decide +kernel
theorem dX7_holds_2 : decode cX7_holds 2 = .ok (.invokevirtual 116, 3) := by decide +kernel
theorem dX7_holds_5 : decode cX7_holds 5 = .ok (.ifCond .eq 12, 3) := by decide +kernel
theorem dX7_holds_8 : decode cX7_holds 8 = .ok (.iload_n 2, 1) := by decide +kernel
theorem dX7_holds_9 : decode cX7_holds 9 = .ok (.iconst 0, 1) := by decide +kernel
theorem dX7_holds_10 : decode cX7_holds 10 = .ok (.iconst 3, 1) := by decide +kernel
theorem dX7_holds_11 : decode cX7_holds 11 = .ok (.invokestatic 38, 3) := by decide +kernel
theorem dX7_holds_14 : decode cX7_holds 14 = .ok (.ifCond .ne 5, 3) := by decide +kernel
theorem dX7_holds_17 : decode cX7_holds 17 = .ok (.iconst (-1), 1) := by decide +kernel
theorem dX7_holds_18 : decode cX7_holds 18 = .ok (.ireturn, 1) := by decide +kernel
theorem dX7_holds_19 : decode cX7_holds 19 = .ok (.aload_n 0, 1) := by decide +kernel
theorem dX7_holds_20 : decode cX7_holds 20 = .ok (.iload_n 1, 1) := by decide +kernel
theorem dX7_holds_21 : decode cX7_holds 21 = .ok (.aload_n 0, 1) := by decide +kernel
theorem dX7_holds_22 : decode cX7_holds 22 = .ok (.getfield 12, 3) := by decide +kernel
theorem dX7_holds_25 : decode cX7_holds 25 = .ok (.getfield 45, 3) := by decide +kernel
theorem dX7_holds_28 : decode cX7_holds 28 = .ok (.invokevirtual 129, 3) := by decide +kernel
theorem dX7_holds_31 : decode cX7_holds 31 = .ok (.aload_n 0, 1) := by decide +kernel
theorem dX7_holds_32 : decode cX7_holds 32 = .ok (.getfield 34, 3) := by decide +kernel
theorem dX7_holds_35 : decode cX7_holds 35 = .ok (.getfield 156, 3) := by decide +kernel
theorem dX7_holds_38 : decode cX7_holds 38 = .ok (.iconst 0, 1) := by decide +kernel
theorem dX7_holds_39 : decode cX7_holds 39 = .ok (.invokevirtual 193, 3) := by decide +kernel
theorem dX7_holds_42 : decode cX7_holds 42 = .ok (.istore_n 3, 1) := by decide +kernel
theorem dX7_holds_43 : decode cX7_holds 43 = .ok (.aload_n 0, 1) := by decide +kernel
theorem dX7_holds_44 : decode cX7_holds 44 = .ok (.getfield 34, 3) := by decide +kernel
theorem dX7_holds_47 : decode cX7_holds 47 = .ok (.getfield 156, 3) := by decide +kernel
theorem dX7_holds_50 : decode cX7_holds 50 = .ok (.iconst 1, 1) := by decide +kernel
theorem dX7_holds_51 : decode cX7_holds 51 = .ok (.invokevirtual 193, 3) := by decide +kernel
theorem dX7_holds_54 : decode cX7_holds 54 = .ok (.istore 4, 2) := by decide +kernel
theorem dX7_holds_56 : decode cX7_holds 56 = .ok (.aload_n 0, 1) := by decide +kernel
theorem dX7_holds_57 : decode cX7_holds 57 = .ok (.getfield 34, 3) := by decide +kernel
theorem dX7_holds_60 : decode cX7_holds 60 = .ok (.aload_n 0, 1) := by decide +kernel
theorem dX7_holds_61 : decode cX7_holds 61 = .ok (.iload_n 1, 1) := by decide +kernel
theorem dX7_holds_62 : decode cX7_holds 62 = .ok (.invokevirtual 165, 3) := by decide +kernel
theorem dX7_holds_65 : decode cX7_holds 65 = .ok (.invokevirtual 197, 3) := by decide +kernel
theorem dX7_holds_68 : decode cX7_holds 68 = .ok (.istore 5, 2) := by decide +kernel
theorem dX7_holds_70 : decode cX7_holds 70 = .ok (.iload_n 2, 1) := by decide +kernel
theorem dX7_holds_71 : decode cX7_holds 71 = .ok (.tableswitch 33 0 2 #[25, 27, 30], 25) := by decide +kernel
theorem dX7_holds_96 : decode cX7_holds 96 = .ok (.iload_n 3, 1) := by decide +kernel
theorem dX7_holds_97 : decode cX7_holds 97 = .ok (.ireturn, 1) := by decide +kernel
theorem dX7_holds_98 : decode cX7_holds 98 = .ok (.iload 4, 2) := by decide +kernel
theorem dX7_holds_100 : decode cX7_holds 100 = .ok (.ireturn, 1) := by decide +kernel
theorem dX7_holds_101 : decode cX7_holds 101 = .ok (.iload 5, 2) := by decide +kernel
theorem dX7_holds_103 : decode cX7_holds 103 = .ok (.ireturn, 1) := by decide +kernel
theorem dX7_holds_104 : decode cX7_holds 104 = .ok (.aload_n 0, 1) := by decide +kernel
theorem dX7_holds_105 : decode cX7_holds 105 = .ok (.getfield 34, 3) := by decide +kernel
theorem dX7_holds_108 : decode cX7_holds 108 = .ok (.invokevirtual 133, 3) := by decide +kernel
theorem dX7_holds_111 : decode cX7_holds 111 = .ok (.aload_n 0, 1) := by decide +kernel
theorem dX7_holds_112 : decode cX7_holds 112 = .ok (.getfield 12, 3) := by decide +kernel
theorem dX7_holds_115 : decode cX7_holds 115 = .ok (.getfield 45, 3) := by decide +kernel
theorem dX7_holds_118 : decode cX7_holds 118 = .ok (.imul, 1) := by decide +kernel
theorem dX7_holds_119 : decode cX7_holds 119 = .ok (.iload_n 3, 1) := by decide +kernel
theorem dX7_holds_120 : decode cX7_holds 120 = .ok (.isub, 1) := by decide +kernel
theorem dX7_holds_121 : decode cX7_holds 121 = .ok (.iload 4, 2) := by decide +kernel
theorem dX7_holds_123 : decode cX7_holds 123 = .ok (.isub, 1) := by decide +kernel
theorem dX7_holds_124 : decode cX7_holds 124 = .ok (.iload 5, 2) := by decide +kernel
theorem dX7_holds_126 : decode cX7_holds 126 = .ok (.isub, 1) := by decide +kernel
theorem dX7_holds_127 : decode cX7_holds 127 = .ok (.ireturn, 1) := by decide +kernel
theorem dX7_linesWith_0 : decode cX7_linesWith 0 = .ok (.aload_n 0, 1) := by decide +kernel
theorem dX7_linesWith_1 : decode cX7_linesWith 1 = .ok (.iload_n 1, 1) := by decide +kernel
theorem dX7_linesWith_2 : decode cX7_linesWith 2 = .ok (.invokevirtual 116, 3) := by decide +kernel
theorem dX7_linesWith_5 : decode cX7_linesWith 5 = .ok (.ifCond .eq 14, 3) := by decide +kernel
theorem dX7_linesWith_8 : decode cX7_linesWith 8 = .ok (.iload_n 2, 1) := by decide +kernel
theorem dX7_linesWith_9 : decode cX7_linesWith 9 = .ok (.bipush 20, 2) := by decide +kernel
theorem dX7_linesWith_11 : decode cX7_linesWith 11 = .ok (.bipush 80, 2) := by decide +kernel
theorem dX7_linesWith_13 : decode cX7_linesWith 13 = .ok (.invokestatic 38, 3) := by decide +kernel
theorem dX7_linesWith_16 : decode cX7_linesWith 16 = .ok (.ifCond .ne 5, 3) := by decide +kernel
theorem dX7_linesWith_19 : decode cX7_linesWith 19 = .ok (.iconst (-1), 1) := by decide +kernel
theorem dX7_linesWith_20 : decode cX7_linesWith 20 = .ok (.ireturn, 1) := by decide +kernel
theorem dX7_linesWith_21 : decode cX7_linesWith 21 = .ok (.aload_n 0, 1) := by decide +kernel
theorem dX7_linesWith_22 : decode cX7_linesWith 22 = .ok (.iload_n 1, 1) := by decide +kernel
theorem dX7_linesWith_23 : decode cX7_linesWith 23 = .ok (.iload_n 2, 1) := by decide +kernel
theorem dX7_linesWith_24 : decode cX7_linesWith 24 = .ok (.invokevirtual 129, 3) := by decide +kernel
theorem dX7_linesWith_27 : decode cX7_linesWith 27 = .ok (.aload_n 0, 1) := by decide +kernel
theorem dX7_linesWith_28 : decode cX7_linesWith 28 = .ok (.getfield 34, 3) := by decide +kernel
theorem dX7_linesWith_31 : decode cX7_linesWith 31 = .ok (.invokevirtual 133, 3) := by decide +kernel
theorem dX7_linesWith_34 : decode cX7_linesWith 34 = .ok (.ireturn, 1) := by decide +kernel
theorem dX7_leastColumns_0 : decode cX7_leastColumns 0 = .ok (.aload_n 0, 1) := by decide +kernel
theorem dX7_leastColumns_1 : decode cX7_leastColumns 1 = .ok (.iload_n 1, 1) := by decide +kernel
theorem dX7_leastColumns_2 : decode cX7_leastColumns 2 = .ok (.invokevirtual 116, 3) := by decide +kernel
theorem dX7_leastColumns_5 : decode cX7_leastColumns 5 = .ok (.ifCond .eq 13, 3) := by decide +kernel
theorem dX7_leastColumns_8 : decode cX7_leastColumns 8 = .ok (.iload_n 2, 1) := by decide +kernel
theorem dX7_leastColumns_9 : decode cX7_leastColumns 9 = .ok (.iconst 1, 1) := by decide +kernel
theorem dX7_leastColumns_10 : decode cX7_leastColumns 10 = .ok (.bipush 99, 2) := by decide +kernel
theorem dX7_leastColumns_12 : decode cX7_leastColumns 12 = .ok (.invokestatic 38, 3) := by decide +kernel
theorem dX7_leastColumns_15 : decode cX7_leastColumns 15 = .ok (.ifCond .ne 5, 3) := by decide +kernel
theorem dX7_leastColumns_18 : decode cX7_leastColumns 18 = .ok (.iconst (-1), 1) := by decide +kernel
theorem dX7_leastColumns_19 : decode cX7_leastColumns 19 = .ok (.ireturn, 1) := by decide +kernel
theorem dX7_leastColumns_20 : decode cX7_leastColumns 20 = .ok (.bipush 20, 2) := by decide +kernel
theorem dX7_leastColumns_22 : decode cX7_leastColumns 22 = .ok (.istore_n 3, 1) := by decide +kernel
theorem dX7_leastColumns_23 : decode cX7_leastColumns 23 = .ok (.iload_n 3, 1) := by decide +kernel
theorem dX7_leastColumns_24 : decode cX7_leastColumns 24 = .ok (.bipush 80, 2) := by decide +kernel
theorem dX7_leastColumns_26 : decode cX7_leastColumns 26 = .ok (.if_icmp .gt 28, 3) := by decide +kernel
theorem dX7_leastColumns_29 : decode cX7_leastColumns 29 = .ok (.aload_n 0, 1) := by decide +kernel
theorem dX7_leastColumns_30 : decode cX7_leastColumns 30 = .ok (.iload_n 1, 1) := by decide +kernel
theorem dX7_leastColumns_31 : decode cX7_leastColumns 31 = .ok (.iload_n 3, 1) := by decide +kernel
theorem dX7_leastColumns_32 : decode cX7_leastColumns 32 = .ok (.invokevirtual 129, 3) := by decide +kernel
theorem dX7_leastColumns_35 : decode cX7_leastColumns 35 = .ok (.aload_n 0, 1) := by decide +kernel
theorem dX7_leastColumns_36 : decode cX7_leastColumns 36 = .ok (.getfield 34, 3) := by decide +kernel
theorem dX7_leastColumns_39 : decode cX7_leastColumns 39 = .ok (.invokevirtual 133, 3) := by decide +kernel
theorem dX7_leastColumns_42 : decode cX7_leastColumns 42 = .ok (.iload_n 2, 1) := by decide +kernel
theorem dX7_leastColumns_43 : decode cX7_leastColumns 43 = .ok (.if_icmp .gt 5, 3) := by decide +kernel
theorem dX7_leastColumns_46 : decode cX7_leastColumns 46 = .ok (.iload_n 3, 1) := by decide +kernel
theorem dX7_leastColumns_47 : decode cX7_leastColumns 47 = .ok (.ireturn, 1) := by decide +kernel
theorem dX7_leastColumns_48 : decode cX7_leastColumns 48 = .ok (.iinc 3 1, 3) := by decide +kernel
theorem dX7_leastColumns_51 : decode cX7_leastColumns 51 = .ok (.goto (-28), 3) := by decide +kernel
theorem dX7_leastColumns_54 : decode cX7_leastColumns 54 = .ok (.bipush (-9), 2) := by decide +kernel
theorem dX7_leastColumns_56 : decode cX7_leastColumns 56 = .ok (.ireturn, 1) := by decide +kernel
theorem dX7_undo_0 : decode cX7_undo 0 = .ok (.aload_n 0, 1) := by decide +kernel
theorem dX7_undo_1 : decode cX7_undo 1 = .ok (.getfield 137, 3) := by decide +kernel
theorem dX7_undo_4 : decode cX7_undo 4 = .ok (.iconst 1, 1) := by decide +kernel
theorem dX7_undo_5 : decode cX7_undo 5 = .ok (.if_icmp .ge 6, 3) := by decide +kernel
theorem dX7_undo_8 : decode cX7_undo 8 = .ok (.bipush (-2), 2) := by decide +kernel
theorem dX7_undo_10 : decode cX7_undo 10 = .ok (.ireturn, 1) := by decide +kernel
theorem dX7_undo_11 : decode cX7_undo 11 = .ok (.aload_n 0, 1) := by decide +kernel
theorem dX7_undo_12 : decode cX7_undo 12 = .ok (.dup, 1) := by decide +kernel
theorem dX7_undo_13 : decode cX7_undo 13 = .ok (.getfield 137, 3) := by decide +kernel
theorem dX7_undo_16 : decode cX7_undo 16 = .ok (.iconst 1, 1) := by decide +kernel
theorem dX7_undo_17 : decode cX7_undo 17 = .ok (.isub, 1) := by decide +kernel
theorem dX7_undo_18 : decode cX7_undo 18 = .ok (.putfield 137, 3) := by decide +kernel
theorem dX7_undo_21 : decode cX7_undo 21 = .ok (.aload_n 0, 1) := by decide +kernel
theorem dX7_undo_22 : decode cX7_undo 22 = .ok (.getfield 12, 3) := by decide +kernel
theorem dX7_undo_25 : decode cX7_undo 25 = .ok (.aload_n 0, 1) := by decide +kernel
theorem dX7_undo_26 : decode cX7_undo 26 = .ok (.getfield 16, 3) := by decide +kernel
theorem dX7_undo_29 : decode cX7_undo 29 = .ok (.aload_n 0, 1) := by decide +kernel
theorem dX7_undo_30 : decode cX7_undo 30 = .ok (.getfield 137, 3) := by decide +kernel
theorem dX7_undo_33 : decode cX7_undo 33 = .ok (.aaload, 1) := by decide +kernel
theorem dX7_undo_34 : decode cX7_undo 34 = .ok (.invokevirtual 201, 3) := by decide +kernel
theorem dX7_undo_37 : decode cX7_undo 37 = .ok (.aload_n 0, 1) := by decide +kernel
theorem dX7_undo_38 : decode cX7_undo 38 = .ok (.getfield 137, 3) := by decide +kernel
theorem dX7_undo_41 : decode cX7_undo 41 = .ok (.ireturn, 1) := by decide +kernel
theorem dX7_saveState_0 : decode cX7_saveState 0 = .ok (.aload_n 0, 1) := by decide +kernel
theorem dX7_saveState_1 : decode cX7_saveState 1 = .ok (.getfield 137, 3) := by decide +kernel
theorem dX7_saveState_4 : decode cX7_saveState 4 = .ok (.bipush 6, 2) := by decide +kernel
theorem dX7_saveState_6 : decode cX7_saveState 6 = .ok (.if_icmp .lt 50, 3) := by decide +kernel
theorem dX7_saveState_9 : decode cX7_saveState 9 = .ok (.aload_n 0, 1) := by decide +kernel
theorem dX7_saveState_10 : decode cX7_saveState 10 = .ok (.getfield 16, 3) := by decide +kernel
theorem dX7_saveState_13 : decode cX7_saveState 13 = .ok (.iconst 0, 1) := by decide +kernel
theorem dX7_saveState_14 : decode cX7_saveState 14 = .ok (.aaload, 1) := by decide +kernel
theorem dX7_saveState_15 : decode cX7_saveState 15 = .ok (.astore_n 1, 1) := by decide +kernel
theorem dX7_saveState_16 : decode cX7_saveState 16 = .ok (.iconst 1, 1) := by decide +kernel
theorem dX7_saveState_17 : decode cX7_saveState 17 = .ok (.istore_n 2, 1) := by decide +kernel
theorem dX7_saveState_18 : decode cX7_saveState 18 = .ok (.iload_n 2, 1) := by decide +kernel
theorem dX7_saveState_19 : decode cX7_saveState 19 = .ok (.bipush 6, 2) := by decide +kernel
theorem dX7_saveState_21 : decode cX7_saveState 21 = .ok (.if_icmp .ge 23, 3) := by decide +kernel
theorem dX7_saveState_24 : decode cX7_saveState 24 = .ok (.aload_n 0, 1) := by decide +kernel
theorem dX7_saveState_25 : decode cX7_saveState 25 = .ok (.getfield 16, 3) := by decide +kernel
theorem dX7_saveState_28 : decode cX7_saveState 28 = .ok (.iload_n 2, 1) := by decide +kernel
theorem dX7_saveState_29 : decode cX7_saveState 29 = .ok (.iconst 1, 1) := by decide +kernel
theorem dX7_saveState_30 : decode cX7_saveState 30 = .ok (.isub, 1) := by decide +kernel
theorem dX7_saveState_31 : decode cX7_saveState 31 = .ok (.aload_n 0, 1) := by decide +kernel
theorem dX7_saveState_32 : decode cX7_saveState 32 = .ok (.getfield 16, 3) := by decide +kernel
theorem dX7_saveState_35 : decode cX7_saveState 35 = .ok (.iload_n 2, 1) := by decide +kernel
theorem dX7_saveState_36 : decode cX7_saveState 36 = .ok (.aaload, 1) := by decide +kernel
theorem dX7_saveState_37 : decode cX7_saveState 37 = .ok (.aastore, 1) := by decide +kernel
theorem dX7_saveState_38 : decode cX7_saveState 38 = .ok (.iinc 2 1, 3) := by decide +kernel
theorem dX7_saveState_41 : decode cX7_saveState 41 = .ok (.goto (-23), 3) := by decide +kernel
theorem dX7_saveState_44 : decode cX7_saveState 44 = .ok (.aload_n 0, 1) := by decide +kernel
theorem dX7_saveState_45 : decode cX7_saveState 45 = .ok (.getfield 16, 3) := by decide +kernel
theorem dX7_saveState_48 : decode cX7_saveState 48 = .ok (.iconst 5, 1) := by decide +kernel
theorem dX7_saveState_49 : decode cX7_saveState 49 = .ok (.aload_n 1, 1) := by decide +kernel
theorem dX7_saveState_50 : decode cX7_saveState 50 = .ok (.aastore, 1) := by decide +kernel
theorem dX7_saveState_51 : decode cX7_saveState 51 = .ok (.aload_n 0, 1) := by decide +kernel
theorem dX7_saveState_52 : decode cX7_saveState 52 = .ok (.iconst 5, 1) := by decide +kernel
theorem dX7_saveState_53 : decode cX7_saveState 53 = .ok (.putfield 137, 3) := by decide +kernel
theorem dX7_saveState_56 : decode cX7_saveState 56 = .ok (.aload_n 0, 1) := by decide +kernel
theorem dX7_saveState_57 : decode cX7_saveState 57 = .ok (.getfield 16, 3) := by decide +kernel
theorem dX7_saveState_60 : decode cX7_saveState 60 = .ok (.aload_n 0, 1) := by decide +kernel
theorem dX7_saveState_61 : decode cX7_saveState 61 = .ok (.getfield 137, 3) := by decide +kernel
theorem dX7_saveState_64 : decode cX7_saveState 64 = .ok (.aaload, 1) := by decide +kernel
theorem dX7_saveState_65 : decode cX7_saveState 65 = .ok (.aload_n 0, 1) := by decide +kernel
theorem dX7_saveState_66 : decode cX7_saveState 66 = .ok (.getfield 12, 3) := by decide +kernel
theorem dX7_saveState_69 : decode cX7_saveState 69 = .ok (.invokevirtual 201, 3) := by decide +kernel
theorem dX7_saveState_72 : decode cX7_saveState 72 = .ok (.aload_n 0, 1) := by decide +kernel
theorem dX7_saveState_73 : decode cX7_saveState 73 = .ok (.dup, 1) := by decide +kernel
theorem dX7_saveState_74 : decode cX7_saveState 74 = .ok (.getfield 137, 3) := by decide +kernel
theorem dX7_saveState_77 : decode cX7_saveState 77 = .ok (.iconst 1, 1) := by decide +kernel
theorem dX7_saveState_78 : decode cX7_saveState 78 = .ok (.iadd, 1) := by decide +kernel
theorem dX7_saveState_79 : decode cX7_saveState 79 = .ok (.putfield 137, 3) := by decide +kernel
theorem dX7_saveState_82 : decode cX7_saveState 82 = .ok (.return_, 1) := by decide +kernel
theorem dX7_isStyle_0 : decode cX7_isStyle 0 = .ok (.iload_n 1, 1) := by decide +kernel
theorem dX7_isStyle_1 : decode cX7_isStyle 1 = .ok (.iconst 0, 1) := by decide +kernel
theorem dX7_isStyle_2 : decode cX7_isStyle 2 = .ok (.iconst 3, 1) := by decide +kernel
theorem dX7_isStyle_3 : decode cX7_isStyle 3 = .ok (.invokestatic 38, 3) := by decide +kernel
theorem dX7_isStyle_6 : decode cX7_isStyle 6 = .ok (.ireturn, 1) := by decide +kernel
theorem dX7_isParagraph_0 : decode cX7_isParagraph 0 = .ok (.iload_n 1, 1) := by decide +kernel
theorem dX7_isParagraph_1 : decode cX7_isParagraph 1 = .ok (.iconst 0, 1) := by decide +kernel
theorem dX7_isParagraph_2 : decode cX7_isParagraph 2 = .ok (.aload_n 0, 1) := by decide +kernel
theorem dX7_isParagraph_3 : decode cX7_isParagraph 3 = .ok (.getfield 12, 3) := by decide +kernel
theorem dX7_isParagraph_6 : decode cX7_isParagraph 6 = .ok (.getfield 101, 3) := by decide +kernel
theorem dX7_isParagraph_9 : decode cX7_isParagraph 9 = .ok (.iconst 1, 1) := by decide +kernel
theorem dX7_isParagraph_10 : decode cX7_isParagraph 10 = .ok (.isub, 1) := by decide +kernel
theorem dX7_isParagraph_11 : decode cX7_isParagraph 11 = .ok (.invokestatic 38, 3) := by decide +kernel
theorem dX7_isParagraph_14 : decode cX7_isParagraph 14 = .ok (.ireturn, 1) := by decide +kernel
theorem dX7_styleOf_0 : decode cX7_styleOf 0 = .ok (.aload_n 0, 1) := by decide +kernel
theorem dX7_styleOf_1 : decode cX7_styleOf 1 = .ok (.getfield 12, 3) := by decide +kernel
theorem dX7_styleOf_4 : decode cX7_styleOf 4 = .ok (.getfield 56, 3) := by decide +kernel
theorem dX7_styleOf_7 : decode cX7_styleOf 7 = .ok (.aload_n 0, 1) := by decide +kernel
theorem dX7_styleOf_8 : decode cX7_styleOf 8 = .ok (.getfield 12, 3) := by decide +kernel
theorem dX7_styleOf_11 : decode cX7_styleOf 11 = .ok (.getfield 104, 3) := by decide +kernel
theorem dX7_styleOf_14 : decode cX7_styleOf 14 = .ok (.iload_n 1, 1) := by decide +kernel
theorem dX7_styleOf_15 : decode cX7_styleOf 15 = .ok (.aaload, 1) := by decide +kernel
theorem dX7_styleOf_16 : decode cX7_styleOf 16 = .ok (.getfield 108, 3) := by decide +kernel
theorem dX7_styleOf_19 : decode cX7_styleOf 19 = .ok (.aaload, 1) := by decide +kernel
theorem dX7_styleOf_20 : decode cX7_styleOf 20 = .ok (.areturn, 1) := by decide +kernel
theorem dX7_layOut_0 : decode cX7_layOut 0 = .ok (.aload_n 0, 1) := by decide +kernel
theorem dX7_layOut_1 : decode cX7_layOut 1 = .ok (.getfield 34, 3) := by decide +kernel
theorem dX7_layOut_4 : decode cX7_layOut 4 = .ok (.aload_n 0, 1) := by decide +kernel
theorem dX7_layOut_5 : decode cX7_layOut 5 = .ok (.getfield 12, 3) := by decide +kernel
theorem dX7_layOut_8 : decode cX7_layOut 8 = .ok (.getfield 104, 3) := by decide +kernel
theorem dX7_layOut_11 : decode cX7_layOut 11 = .ok (.iload_n 1, 1) := by decide +kernel
theorem dX7_layOut_12 : decode cX7_layOut 12 = .ok (.aaload, 1) := by decide +kernel
theorem dX7_layOut_13 : decode cX7_layOut 13 = .ok (.aload_n 0, 1) := by decide +kernel
theorem dX7_layOut_14 : decode cX7_layOut 14 = .ok (.iload_n 1, 1) := by decide +kernel
theorem dX7_layOut_15 : decode cX7_layOut 15 = .ok (.invokevirtual 165, 3) := by decide +kernel
theorem dX7_layOut_18 : decode cX7_layOut 18 = .ok (.iload_n 2, 1) := by decide +kernel
theorem dX7_layOut_19 : decode cX7_layOut 19 = .ok (.aload_n 0, 1) := by decide +kernel
theorem dX7_layOut_20 : decode cX7_layOut 20 = .ok (.getfield 12, 3) := by decide +kernel
theorem dX7_layOut_23 : decode cX7_layOut 23 = .ok (.getfield 49, 3) := by decide +kernel
theorem dX7_layOut_26 : decode cX7_layOut 26 = .ok (.invokevirtual 205, 3) := by decide +kernel
theorem dX7_layOut_29 : decode cX7_layOut 29 = .ok (.return_, 1) := by decide +kernel
theorem dX7_isWithin_0 : decode cX7_isWithin 0 = .ok (.iload_n 0, 1) := by decide +kernel
theorem dX7_isWithin_1 : decode cX7_isWithin 1 = .ok (.iload_n 1, 1) := by decide +kernel
theorem dX7_isWithin_2 : decode cX7_isWithin 2 = .ok (.if_icmp .lt 12, 3) := by decide +kernel
theorem dX7_isWithin_5 : decode cX7_isWithin 5 = .ok (.iload_n 0, 1) := by decide +kernel
theorem dX7_isWithin_6 : decode cX7_isWithin 6 = .ok (.iload_n 2, 1) := by decide +kernel
theorem dX7_isWithin_7 : decode cX7_isWithin 7 = .ok (.if_icmp .gt 7, 3) := by decide +kernel
theorem dX7_isWithin_10 : decode cX7_isWithin 10 = .ok (.iconst 1, 1) := by decide +kernel
theorem dX7_isWithin_11 : decode cX7_isWithin 11 = .ok (.goto 4, 3) := by decide +kernel
theorem dX7_isWithin_14 : decode cX7_isWithin 14 = .ok (.iconst 0, 1) := by decide +kernel
theorem dX7_isWithin_15 : decode cX7_isWithin 15 = .ok (.ireturn, 1) := by decide +kernel
theorem dX7_digitsOf_0 : decode cX7_digitsOf 0 = .ok (.iconst 1, 1) := by decide +kernel
theorem dX7_digitsOf_1 : decode cX7_digitsOf 1 = .ok (.istore_n 1, 1) := by decide +kernel
theorem dX7_digitsOf_2 : decode cX7_digitsOf 2 = .ok (.sipush 10000, 3) := by decide +kernel
theorem dX7_digitsOf_5 : decode cX7_digitsOf 5 = .ok (.istore_n 2, 1) := by decide +kernel
theorem dX7_digitsOf_6 : decode cX7_digitsOf 6 = .ok (.iload_n 2, 1) := by decide +kernel
theorem dX7_digitsOf_7 : decode cX7_digitsOf 7 = .ok (.iconst 1, 1) := by decide +kernel
theorem dX7_digitsOf_8 : decode cX7_digitsOf 8 = .ok (.if_icmp .le 19, 3) := by decide +kernel
theorem dX7_digitsOf_11 : decode cX7_digitsOf 11 = .ok (.iload_n 0, 1) := by decide +kernel
theorem dX7_digitsOf_12 : decode cX7_digitsOf 12 = .ok (.iload_n 2, 1) := by decide +kernel
theorem dX7_digitsOf_13 : decode cX7_digitsOf 13 = .ok (.if_icmp .lt 6, 3) := by decide +kernel
theorem dX7_digitsOf_16 : decode cX7_digitsOf 16 = .ok (.iinc 1 1, 3) := by decide +kernel
theorem dX7_digitsOf_19 : decode cX7_digitsOf 19 = .ok (.iload_n 2, 1) := by decide +kernel
theorem dX7_digitsOf_20 : decode cX7_digitsOf 20 = .ok (.bipush 10, 2) := by decide +kernel
theorem dX7_digitsOf_22 : decode cX7_digitsOf 22 = .ok (.idiv, 1) := by decide +kernel
theorem dX7_digitsOf_23 : decode cX7_digitsOf 23 = .ok (.istore_n 2, 1) := by decide +kernel
theorem dX7_digitsOf_24 : decode cX7_digitsOf 24 = .ok (.goto (-18), 3) := by decide +kernel
theorem dX7_digitsOf_27 : decode cX7_digitsOf 27 = .ok (.iload_n 1, 1) := by decide +kernel
theorem dX7_digitsOf_28 : decode cX7_digitsOf 28 = .ok (.ireturn, 1) := by decide +kernel
theorem dX7_multipleBehind_0 : decode cX7_multipleBehind 0 = .ok (.iconst 1, 1) := by decide +kernel
theorem dX7_multipleBehind_1 : decode cX7_multipleBehind 1 = .ok (.iload_n 1, 1) := by decide +kernel
theorem dX7_multipleBehind_2 : decode cX7_multipleBehind 2 = .ok (.invokestatic 212, 3) := by decide +kernel
theorem dX7_multipleBehind_5 : decode cX7_multipleBehind 5 = .ok (.istore_n 2, 1) := by decide +kernel
theorem dX7_multipleBehind_6 : decode cX7_multipleBehind 6 = .ok (.iload_n 0, 1) := by decide +kernel
theorem dX7_multipleBehind_7 : decode cX7_multipleBehind 7 = .ok (.iload_n 2, 1) := by decide +kernel
theorem dX7_multipleBehind_8 : decode cX7_multipleBehind 8 = .ok (.idiv, 1) := by decide +kernel
theorem dX7_multipleBehind_9 : decode cX7_multipleBehind 9 = .ok (.iconst 1, 1) := by decide +kernel
theorem dX7_multipleBehind_10 : decode cX7_multipleBehind 10 = .ok (.iadd, 1) := by decide +kernel
theorem dX7_multipleBehind_11 : decode cX7_multipleBehind 11 = .ok (.iload_n 2, 1) := by decide +kernel
theorem dX7_multipleBehind_12 : decode cX7_multipleBehind 12 = .ok (.imul, 1) := by decide +kernel
theorem dX7_multipleBehind_13 : decode cX7_multipleBehind 13 = .ok (.ireturn, 1) := by decide +kernel
theorem dJ9_max_7cf53_0 : decode cJ9_max_7cf53 0 = .ok (.iload_n 0, 1) := by decide +kernel
theorem dJ9_max_7cf53_1 : decode cJ9_max_7cf53 1 = .ok (.iload_n 1, 1) := by decide +kernel
theorem dJ9_max_7cf53_2 : decode cJ9_max_7cf53 2 = .ok (.if_icmp .lt 7, 3) := by decide +kernel
theorem dJ9_max_7cf53_5 : decode cJ9_max_7cf53 5 = .ok (.iload_n 0, 1) := by decide +kernel
theorem dJ9_max_7cf53_6 : decode cJ9_max_7cf53 6 = .ok (.goto 4, 3) := by decide +kernel
theorem dJ9_max_7cf53_9 : decode cJ9_max_7cf53 9 = .ok (.iload_n 1, 1) := by decide +kernel
theorem dJ9_max_7cf53_10 : decode cJ9_max_7cf53 10 = .ok (.ireturn, 1) := by decide +kernel
theorem dJ9_min_7cf53_0 : decode cJ9_min_7cf53 0 = .ok (.iload_n 0, 1) := by decide +kernel
theorem dJ9_min_7cf53_1 : decode cJ9_min_7cf53 1 = .ok (.iload_n 1, 1) := by decide +kernel
theorem dJ9_min_7cf53_2 : decode cJ9_min_7cf53 2 = .ok (.if_icmp .gt 7, 3) := by decide +kernel
theorem dJ9_min_7cf53_5 : decode cJ9_min_7cf53 5 = .ok (.iload_n 0, 1) := by decide +kernel
theorem dJ9_min_7cf53_6 : decode cJ9_min_7cf53 6 = .ok (.goto 4, 3) := by decide +kernel
theorem dJ9_min_7cf53_9 : decode cJ9_min_7cf53 9 = .ok (.iload_n 1, 1) := by decide +kernel
theorem dJ9_min_7cf53_10 : decode cJ9_min_7cf53 10 = .ok (.ireturn, 1) := by decide +kernel
theorem dL_cell_0 : decode cL_cell 0 = .ok (.iload_n 1, 1) := by decide +kernel
theorem dL_cell_1 : decode cL_cell 1 = .ok (.aload_n 0, 1) := by decide +kernel
theorem dL_cell_2 : decode cL_cell 2 = .ok (.arraylength, 1) := by decide +kernel
theorem dL_cell_3 : decode cL_cell 3 = .ok (.if_icmp .ge 9, 3) := by decide +kernel
theorem dL_cell_6 : decode cL_cell 6 = .ok (.aload_n 0, 1) := by decide +kernel
theorem dL_cell_7 : decode cL_cell 7 = .ok (.iload_n 1, 1) := by decide +kernel
theorem dL_cell_8 : decode cL_cell 8 = .ok (.iaload, 1) := by decide +kernel
theorem dL_cell_9 : decode cL_cell 9 = .ok (.goto 15, 3) := by decide +kernel
theorem dL_cell_12 : decode cL_cell 12 = .ok (.sipush 7919, 3) := by decide +kernel
theorem dL_cell_15 : decode cL_cell 15 = .ok (.iload_n 1, 1) := by decide +kernel
theorem dL_cell_16 : decode cL_cell 16 = .ok (.iconst 3, 1) := by decide +kernel
theorem dL_cell_17 : decode cL_cell 17 = .ok (.iadd, 1) := by decide +kernel
theorem dL_cell_18 : decode cL_cell 18 = .ok (.imul, 1) := by decide +kernel
theorem dL_cell_19 : decode cL_cell 19 = .ok (.iload_n 1, 1) := by decide +kernel
theorem dL_cell_20 : decode cL_cell 20 = .ok (.bipush 11, 2) := by decide +kernel
theorem dL_cell_22 : decode cL_cell 22 = .ok (.iadd, 1) := by decide +kernel
theorem dL_cell_23 : decode cL_cell 23 = .ok (.imul, 1) := by decide +kernel
theorem dL_cell_24 : decode cL_cell 24 = .ok (.ireturn, 1) := by decide +kernel
theorem dL_low_0 : decode cL_low 0 = .ok (.iload_n 0, 1) := by decide +kernel
theorem dL_low_1 : decode cL_low 1 = .ok (.ldc 7, 2) := by decide +kernel
theorem dL_low_3 : decode cL_low 3 = .ok (.iand, 1) := by decide +kernel
theorem dL_low_4 : decode cL_low 4 = .ok (.iload_n 1, 1) := by decide +kernel
theorem dL_low_5 : decode cL_low 5 = .ok (.irem, 1) := by decide +kernel
theorem dL_low_6 : decode cL_low 6 = .ok (.ireturn, 1) := by decide +kernel
theorem dL_tale_0 : decode cL_tale 0 = .ok (.ldc2_w 8, 3) := by decide +kernel
theorem dL_tale_3 : decode cL_tale 3 = .ok (.lstore_n 1, 1) := by decide +kernel
theorem dL_tale_4 : decode cL_tale 4 = .ok (.iconst 0, 1) := by decide +kernel
theorem dL_tale_5 : decode cL_tale 5 = .ok (.istore_n 3, 1) := by decide +kernel
theorem dL_tale_6 : decode cL_tale 6 = .ok (.iload_n 3, 1) := by decide +kernel
theorem dL_tale_7 : decode cL_tale 7 = .ok (.iconst 4, 1) := by decide +kernel
theorem dL_tale_8 : decode cL_tale 8 = .ok (.if_icmp .ge 112, 3) := by decide +kernel
theorem dL_tale_11 : decode cL_tale 11 = .ok (.lload_n 1, 1) := by decide +kernel
theorem dL_tale_12 : decode cL_tale 12 = .ok (.ldc2_w 10, 3) := by decide +kernel
theorem dL_tale_15 : decode cL_tale 15 = .ok (.lmul, 1) := by decide +kernel
theorem dL_tale_16 : decode cL_tale 16 = .ok (.aload_n 0, 1) := by decide +kernel
theorem dL_tale_17 : decode cL_tale 17 = .ok (.iload_n 3, 1) := by decide +kernel
theorem dL_tale_18 : decode cL_tale 18 = .ok (.invokevirtual 12, 3) := by decide +kernel
theorem dL_tale_21 : decode cL_tale 21 = .ok (.i2l, 1) := by decide +kernel
theorem dL_tale_22 : decode cL_tale 22 = .ok (.ladd, 1) := by decide +kernel
theorem dL_tale_23 : decode cL_tale 23 = .ok (.lstore_n 1, 1) := by decide +kernel
theorem dL_tale_24 : decode cL_tale 24 = .ok (.iconst 0, 1) := by decide +kernel
theorem dL_tale_25 : decode cL_tale 25 = .ok (.istore 4, 2) := by decide +kernel
theorem dL_tale_27 : decode cL_tale 27 = .ok (.iload 4, 2) := by decide +kernel
theorem dL_tale_29 : decode cL_tale 29 = .ok (.iconst 4, 1) := by decide +kernel
theorem dL_tale_30 : decode cL_tale 30 = .ok (.if_icmp .ge 24, 3) := by decide +kernel
theorem dL_tale_33 : decode cL_tale 33 = .ok (.lload_n 1, 1) := by decide +kernel
theorem dL_tale_34 : decode cL_tale 34 = .ok (.ldc2_w 18, 3) := by decide +kernel
theorem dL_tale_37 : decode cL_tale 37 = .ok (.lmul, 1) := by decide +kernel
theorem dL_tale_38 : decode cL_tale 38 = .ok (.aload_n 0, 1) := by decide +kernel
theorem dL_tale_39 : decode cL_tale 39 = .ok (.iload_n 3, 1) := by decide +kernel
theorem dL_tale_40 : decode cL_tale 40 = .ok (.iload 4, 2) := by decide +kernel
theorem dL_tale_42 : decode cL_tale 42 = .ok (.invokevirtual 20, 3) := by decide +kernel
theorem dL_tale_45 : decode cL_tale 45 = .ok (.i2l, 1) := by decide +kernel
theorem dL_tale_46 : decode cL_tale 46 = .ok (.ladd, 1) := by decide +kernel
theorem dL_tale_47 : decode cL_tale 47 = .ok (.lstore_n 1, 1) := by decide +kernel
theorem dL_tale_48 : decode cL_tale 48 = .ok (.iinc 4 1, 3) := by decide +kernel
theorem dL_tale_51 : decode cL_tale 51 = .ok (.goto (-24), 3) := by decide +kernel
theorem dL_tale_54 : decode cL_tale 54 = .ok (.iconst 0, 1) := by decide +kernel
theorem dL_tale_55 : decode cL_tale 55 = .ok (.istore 4, 2) := by decide +kernel
theorem dL_tale_57 : decode cL_tale 57 = .ok (.iload 4, 2) := by decide +kernel
theorem dL_tale_59 : decode cL_tale 59 = .ok (.bipush 8, 2) := by decide +kernel
theorem dL_tale_61 : decode cL_tale 61 = .ok (.if_icmp .ge 53, 3) := by decide +kernel
theorem dL_tale_64 : decode cL_tale 64 = .ok (.lload_n 1, 1) := by decide +kernel
theorem dL_tale_65 : decode cL_tale 65 = .ok (.ldc2_w 24, 3) := by decide +kernel
theorem dL_tale_68 : decode cL_tale 68 = .ok (.lmul, 1) := by decide +kernel
theorem dL_tale_69 : decode cL_tale 69 = .ok (.aload_n 0, 1) := by decide +kernel
theorem dL_tale_70 : decode cL_tale 70 = .ok (.iload_n 3, 1) := by decide +kernel
theorem dL_tale_71 : decode cL_tale 71 = .ok (.iload 4, 2) := by decide +kernel
theorem dL_tale_73 : decode cL_tale 73 = .ok (.iconst 0, 1) := by decide +kernel
theorem dL_tale_74 : decode cL_tale 74 = .ok (.invokevirtual 26, 3) := by decide +kernel
theorem dL_tale_77 : decode cL_tale 77 = .ok (.i2l, 1) := by decide +kernel
theorem dL_tale_78 : decode cL_tale 78 = .ok (.ladd, 1) := by decide +kernel
theorem dL_tale_79 : decode cL_tale 79 = .ok (.ldc2_w 8, 3) := by decide +kernel
theorem dL_tale_82 : decode cL_tale 82 = .ok (.aload_n 0, 1) := by decide +kernel
theorem dL_tale_83 : decode cL_tale 83 = .ok (.iload_n 3, 1) := by decide +kernel
theorem dL_tale_84 : decode cL_tale 84 = .ok (.iload 4, 2) := by decide +kernel
theorem dL_tale_86 : decode cL_tale 86 = .ok (.iconst 1, 1) := by decide +kernel
theorem dL_tale_87 : decode cL_tale 87 = .ok (.invokevirtual 26, 3) := by decide +kernel
theorem dL_tale_90 : decode cL_tale 90 = .ok (.i2l, 1) := by decide +kernel
theorem dL_tale_91 : decode cL_tale 91 = .ok (.lmul, 1) := by decide +kernel
theorem dL_tale_92 : decode cL_tale 92 = .ok (.ladd, 1) := by decide +kernel
theorem dL_tale_93 : decode cL_tale 93 = .ok (.ldc2_w 30, 3) := by decide +kernel
theorem dL_tale_96 : decode cL_tale 96 = .ok (.aload_n 0, 1) := by decide +kernel
theorem dL_tale_97 : decode cL_tale 97 = .ok (.iload_n 3, 1) := by decide +kernel
theorem dL_tale_98 : decode cL_tale 98 = .ok (.iload 4, 2) := by decide +kernel
theorem dL_tale_100 : decode cL_tale 100 = .ok (.iconst 2, 1) := by decide +kernel
theorem dL_tale_101 : decode cL_tale 101 = .ok (.invokevirtual 26, 3) := by decide +kernel
theorem dL_tale_104 : decode cL_tale 104 = .ok (.i2l, 1) := by decide +kernel
theorem dL_tale_105 : decode cL_tale 105 = .ok (.lmul, 1) := by decide +kernel
theorem dL_tale_106 : decode cL_tale 106 = .ok (.ladd, 1) := by decide +kernel
theorem dL_tale_107 : decode cL_tale 107 = .ok (.lstore_n 1, 1) := by decide +kernel
theorem dL_tale_108 : decode cL_tale 108 = .ok (.iinc 4 1, 3) := by decide +kernel
theorem dL_tale_111 : decode cL_tale 111 = .ok (.goto (-54), 3) := by decide +kernel
theorem dL_tale_114 : decode cL_tale 114 = .ok (.iinc 3 1, 3) := by decide +kernel
theorem dL_tale_117 : decode cL_tale 117 = .ok (.goto (-111), 3) := by decide +kernel
theorem dL_tale_120 : decode cL_tale 120 = .ok (.iconst 0, 1) := by decide +kernel
theorem dL_tale_121 : decode cL_tale 121 = .ok (.istore_n 3, 1) := by decide +kernel
theorem dL_tale_122 : decode cL_tale 122 = .ok (.iload_n 3, 1) := by decide +kernel
theorem dL_tale_123 : decode cL_tale 123 = .ok (.bipush 8, 2) := by decide +kernel
theorem dL_tale_125 : decode cL_tale 125 = .ok (.if_icmp .ge 40, 3) := by decide +kernel
theorem dL_tale_128 : decode cL_tale 128 = .ok (.iconst 0, 1) := by decide +kernel
theorem dL_tale_129 : decode cL_tale 129 = .ok (.istore 4, 2) := by decide +kernel
theorem dL_tale_131 : decode cL_tale 131 = .ok (.iload 4, 2) := by decide +kernel
theorem dL_tale_133 : decode cL_tale 133 = .ok (.bipush 80, 2) := by decide +kernel
theorem dL_tale_135 : decode cL_tale 135 = .ok (.if_icmp .ge 24, 3) := by decide +kernel
theorem dL_tale_138 : decode cL_tale 138 = .ok (.lload_n 1, 1) := by decide +kernel
theorem dL_tale_139 : decode cL_tale 139 = .ok (.ldc2_w 32, 3) := by decide +kernel
theorem dL_tale_142 : decode cL_tale 142 = .ok (.lmul, 1) := by decide +kernel
theorem dL_tale_143 : decode cL_tale 143 = .ok (.aload_n 0, 1) := by decide +kernel
theorem dL_tale_144 : decode cL_tale 144 = .ok (.iload_n 3, 1) := by decide +kernel
theorem dL_tale_145 : decode cL_tale 145 = .ok (.iload 4, 2) := by decide +kernel
theorem dL_tale_147 : decode cL_tale 147 = .ok (.invokevirtual 34, 3) := by decide +kernel
theorem dL_tale_150 : decode cL_tale 150 = .ok (.i2l, 1) := by decide +kernel
theorem dL_tale_151 : decode cL_tale 151 = .ok (.ladd, 1) := by decide +kernel
theorem dL_tale_152 : decode cL_tale 152 = .ok (.lstore_n 1, 1) := by decide +kernel
theorem dL_tale_153 : decode cL_tale 153 = .ok (.iinc 4 3, 3) := by decide +kernel
theorem dL_tale_156 : decode cL_tale 156 = .ok (.goto (-25), 3) := by decide +kernel
theorem dL_tale_159 : decode cL_tale 159 = .ok (.iinc 3 1, 3) := by decide +kernel
theorem dL_tale_162 : decode cL_tale 162 = .ok (.goto (-40), 3) := by decide +kernel
theorem dL_tale_165 : decode cL_tale 165 = .ok (.lload_n 1, 1) := by decide +kernel
theorem dL_tale_166 : decode cL_tale 166 = .ok (.lreturn, 1) := by decide +kernel
theorem dL_does_0 : decode cL_does 0 = .ok (.iload_n 1, 1) := by decide +kernel
theorem dL_does_1 : decode cL_does 1 = .ok (.iconst 4, 1) := by decide +kernel
theorem dL_does_2 : decode cL_does 2 = .ok (.ishr, 1) := by decide +kernel
theorem dL_does_3 : decode cL_does 3 = .ok (.iconst 4, 1) := by decide +kernel
theorem dL_does_4 : decode cL_does 4 = .ok (.invokestatic 37, 3) := by decide +kernel
theorem dL_does_7 : decode cL_does 7 = .ok (.istore_n 2, 1) := by decide +kernel
theorem dL_does_8 : decode cL_does 8 = .ok (.iload_n 1, 1) := by decide +kernel
theorem dL_does_9 : decode cL_does 9 = .ok (.bipush 6, 2) := by decide +kernel
theorem dL_does_11 : decode cL_does 11 = .ok (.ishr, 1) := by decide +kernel
theorem dL_does_12 : decode cL_does 12 = .ok (.iconst 4, 1) := by decide +kernel
theorem dL_does_13 : decode cL_does 13 = .ok (.invokestatic 37, 3) := by decide +kernel
theorem dL_does_16 : decode cL_does 16 = .ok (.istore_n 3, 1) := by decide +kernel
theorem dL_does_17 : decode cL_does 17 = .ok (.iload_n 1, 1) := by decide +kernel
theorem dL_does_18 : decode cL_does 18 = .ok (.bipush 15, 2) := by decide +kernel
theorem dL_does_20 : decode cL_does 20 = .ok (.iand, 1) := by decide +kernel
theorem dL_does_21 : decode cL_does 21 = .ok (.tableswitch 243 0 11 #[63, 77, 94, 117, 117, 117, 150, 169, 183, 189, 196, 228], 63) := by decide +kernel
theorem dL_does_84 : decode cL_does 84 = .ok (.aload_n 0, 1) := by decide +kernel
theorem dL_does_85 : decode cL_does 85 = .ok (.iload_n 1, 1) := by decide +kernel
theorem dL_does_86 : decode cL_does 86 = .ok (.iconst 4, 1) := by decide +kernel
theorem dL_does_87 : decode cL_does 87 = .ok (.ishr, 1) := by decide +kernel
theorem dL_does_88 : decode cL_does 88 = .ok (.iconst 2, 1) := by decide +kernel
theorem dL_does_89 : decode cL_does 89 = .ok (.invokestatic 37, 3) := by decide +kernel
theorem dL_does_92 : decode cL_does 92 = .ok (.bipush 20, 2) := by decide +kernel
theorem dL_does_94 : decode cL_does 94 = .ok (.invokevirtual 42, 3) := by decide +kernel
theorem dL_does_97 : decode cL_does 97 = .ok (.ireturn, 1) := by decide +kernel
theorem dL_does_98 : decode cL_does 98 = .ok (.aload_n 0, 1) := by decide +kernel
theorem dL_does_99 : decode cL_does 99 = .ok (.iconst 0, 1) := by decide +kernel
theorem dL_does_100 : decode cL_does 100 = .ok (.bipush 20, 2) := by decide +kernel
theorem dL_does_102 : decode cL_does 102 = .ok (.iload_n 1, 1) := by decide +kernel
theorem dL_does_103 : decode cL_does 103 = .ok (.iconst 4, 1) := by decide +kernel
theorem dL_does_104 : decode cL_does 104 = .ok (.ishr, 1) := by decide +kernel
theorem dL_does_105 : decode cL_does 105 = .ok (.bipush 61, 2) := by decide +kernel
theorem dL_does_107 : decode cL_does 107 = .ok (.invokestatic 37, 3) := by decide +kernel
theorem dL_does_110 : decode cL_does 110 = .ok (.iadd, 1) := by decide +kernel
theorem dL_does_111 : decode cL_does 111 = .ok (.invokevirtual 42, 3) := by decide +kernel
theorem dL_does_114 : decode cL_does 114 = .ok (.ireturn, 1) := by decide +kernel
theorem dL_does_115 : decode cL_does 115 = .ok (.aload_n 0, 1) := by decide +kernel
theorem dL_does_116 : decode cL_does 116 = .ok (.iload_n 2, 1) := by decide +kernel
theorem dL_does_117 : decode cL_does 117 = .ok (.iload_n 1, 1) := by decide +kernel
theorem dL_does_118 : decode cL_does 118 = .ok (.bipush 8, 2) := by decide +kernel
theorem dL_does_120 : decode cL_does 120 = .ok (.ishr, 1) := by decide +kernel
theorem dL_does_121 : decode cL_does 121 = .ok (.iconst 2, 1) := by decide +kernel
theorem dL_does_122 : decode cL_does 122 = .ok (.invokestatic 37, 3) := by decide +kernel
theorem dL_does_125 : decode cL_does 125 = .ok (.iload_n 1, 1) := by decide +kernel
theorem dL_does_126 : decode cL_does 126 = .ok (.bipush 9, 2) := by decide +kernel
theorem dL_does_128 : decode cL_does 128 = .ok (.ishr, 1) := by decide +kernel
theorem dL_does_129 : decode cL_does 129 = .ok (.bipush 20, 2) := by decide +kernel
theorem dL_does_131 : decode cL_does 131 = .ok (.invokestatic 37, 3) := by decide +kernel
theorem dL_does_134 : decode cL_does 134 = .ok (.invokevirtual 45, 3) := by decide +kernel
theorem dL_does_137 : decode cL_does 137 = .ok (.ireturn, 1) := by decide +kernel
theorem dL_does_138 : decode cL_does 138 = .ok (.aload_n 0, 1) := by decide +kernel
theorem dL_does_139 : decode cL_does 139 = .ok (.iload_n 2, 1) := by decide +kernel
theorem dL_does_140 : decode cL_does 140 = .ok (.iconst 1, 1) := by decide +kernel
theorem dL_does_141 : decode cL_does 141 = .ok (.iload_n 1, 1) := by decide +kernel
theorem dL_does_142 : decode cL_does 142 = .ok (.bipush 8, 2) := by decide +kernel
theorem dL_does_144 : decode cL_does 144 = .ok (.ishr, 1) := by decide +kernel
theorem dL_does_145 : decode cL_does 145 = .ok (.bipush 80, 2) := by decide +kernel
theorem dL_does_147 : decode cL_does 147 = .ok (.invokestatic 37, 3) := by decide +kernel
theorem dL_does_150 : decode cL_does 150 = .ok (.iadd, 1) := by decide +kernel
theorem dL_does_151 : decode cL_does 151 = .ok (.iload_n 1, 1) := by decide +kernel
theorem dL_does_152 : decode cL_does 152 = .ok (.bipush 15, 2) := by decide +kernel
theorem dL_does_154 : decode cL_does 154 = .ok (.ishr, 1) := by decide +kernel
theorem dL_does_155 : decode cL_does 155 = .ok (.iconst 4, 1) := by decide +kernel
theorem dL_does_156 : decode cL_does 156 = .ok (.invokestatic 37, 3) := by decide +kernel
theorem dL_does_159 : decode cL_does 159 = .ok (.iload_n 1, 1) := by decide +kernel
theorem dL_does_160 : decode cL_does 160 = .ok (.bipush 17, 2) := by decide +kernel
theorem dL_does_162 : decode cL_does 162 = .ok (.ishr, 1) := by decide +kernel
theorem dL_does_163 : decode cL_does 163 = .ok (.iconst 4, 1) := by decide +kernel
theorem dL_does_164 : decode cL_does 164 = .ok (.invokestatic 37, 3) := by decide +kernel
theorem dL_does_167 : decode cL_does 167 = .ok (.invokevirtual 48, 3) := by decide +kernel
theorem dL_does_170 : decode cL_does 170 = .ok (.ireturn, 1) := by decide +kernel
theorem dL_does_171 : decode cL_does 171 = .ok (.aload_n 0, 1) := by decide +kernel
theorem dL_does_172 : decode cL_does 172 = .ok (.iload_n 2, 1) := by decide +kernel
theorem dL_does_173 : decode cL_does 173 = .ok (.iconst 1, 1) := by decide +kernel
theorem dL_does_174 : decode cL_does 174 = .ok (.iload_n 1, 1) := by decide +kernel
theorem dL_does_175 : decode cL_does 175 = .ok (.bipush 8, 2) := by decide +kernel
theorem dL_does_177 : decode cL_does 177 = .ok (.ishr, 1) := by decide +kernel
theorem dL_does_178 : decode cL_does 178 = .ok (.bipush 80, 2) := by decide +kernel
theorem dL_does_180 : decode cL_does 180 = .ok (.invokestatic 37, 3) := by decide +kernel
theorem dL_does_183 : decode cL_does 183 = .ok (.iadd, 1) := by decide +kernel
theorem dL_does_184 : decode cL_does 184 = .ok (.iconst 4, 1) := by decide +kernel
theorem dL_does_185 : decode cL_does 185 = .ok (.iconst 0, 1) := by decide +kernel
theorem dL_does_186 : decode cL_does 186 = .ok (.invokevirtual 48, 3) := by decide +kernel
theorem dL_does_189 : decode cL_does 189 = .ok (.ireturn, 1) := by decide +kernel
theorem dL_does_190 : decode cL_does 190 = .ok (.aload_n 0, 1) := by decide +kernel
theorem dL_does_191 : decode cL_does 191 = .ok (.iload_n 2, 1) := by decide +kernel
theorem dL_does_192 : decode cL_does 192 = .ok (.iload_n 1, 1) := by decide +kernel
theorem dL_does_193 : decode cL_does 193 = .ok (.bipush 8, 2) := by decide +kernel
theorem dL_does_195 : decode cL_does 195 = .ok (.ishr, 1) := by decide +kernel
theorem dL_does_196 : decode cL_does 196 = .ok (.iconst 3, 1) := by decide +kernel
theorem dL_does_197 : decode cL_does 197 = .ok (.invokestatic 37, 3) := by decide +kernel
theorem dL_does_200 : decode cL_does 200 = .ok (.invokevirtual 52, 3) := by decide +kernel
theorem dL_does_203 : decode cL_does 203 = .ok (.ireturn, 1) := by decide +kernel
theorem dL_does_204 : decode cL_does 204 = .ok (.aload_n 0, 1) := by decide +kernel
theorem dL_does_205 : decode cL_does 205 = .ok (.iload_n 2, 1) := by decide +kernel
theorem dL_does_206 : decode cL_does 206 = .ok (.invokevirtual 55, 3) := by decide +kernel
theorem dL_does_209 : decode cL_does 209 = .ok (.ireturn, 1) := by decide +kernel
theorem dL_does_210 : decode cL_does 210 = .ok (.aload_n 0, 1) := by decide +kernel
theorem dL_does_211 : decode cL_does 211 = .ok (.iload_n 3, 1) := by decide +kernel
theorem dL_does_212 : decode cL_does 212 = .ok (.iload_n 2, 1) := by decide +kernel
theorem dL_does_213 : decode cL_does 213 = .ok (.invokevirtual 58, 3) := by decide +kernel
theorem dL_does_216 : decode cL_does 216 = .ok (.ireturn, 1) := by decide +kernel
theorem dL_does_217 : decode cL_does 217 = .ok (.iload_n 1, 1) := by decide +kernel
theorem dL_does_218 : decode cL_does 218 = .ok (.bipush 8, 2) := by decide +kernel
theorem dL_does_220 : decode cL_does 220 = .ok (.ishr, 1) := by decide +kernel
theorem dL_does_221 : decode cL_does 221 = .ok (.iconst 3, 1) := by decide +kernel
theorem dL_does_222 : decode cL_does 222 = .ok (.iand, 1) := by decide +kernel
theorem dL_does_223 : decode cL_does 223 = .ok (.ifCond .ne 11, 3) := by decide +kernel
theorem dL_does_226 : decode cL_does 226 = .ok (.aload_n 0, 1) := by decide +kernel
theorem dL_does_227 : decode cL_does 227 = .ok (.iload_n 3, 1) := by decide +kernel
theorem dL_does_228 : decode cL_does 228 = .ok (.invokevirtual 61, 3) := by decide +kernel
theorem dL_does_231 : decode cL_does 231 = .ok (.goto 17, 3) := by decide +kernel
theorem dL_does_234 : decode cL_does 234 = .ok (.aload_n 0, 1) := by decide +kernel
theorem dL_does_235 : decode cL_does 235 = .ok (.iload_n 3, 1) := by decide +kernel
theorem dL_does_236 : decode cL_does 236 = .ok (.iload_n 1, 1) := by decide +kernel
theorem dL_does_237 : decode cL_does 237 = .ok (.bipush 10, 2) := by decide +kernel
theorem dL_does_239 : decode cL_does 239 = .ok (.ishr, 1) := by decide +kernel
theorem dL_does_240 : decode cL_does 240 = .ok (.ldc 64, 2) := by decide +kernel
theorem dL_does_242 : decode cL_does 242 = .ok (.invokestatic 37, 3) := by decide +kernel
theorem dL_does_245 : decode cL_does 245 = .ok (.invokevirtual 65, 3) := by decide +kernel
theorem dL_does_248 : decode cL_does 248 = .ok (.ireturn, 1) := by decide +kernel
theorem dL_does_249 : decode cL_does 249 = .ok (.aload_n 0, 1) := by decide +kernel
theorem dL_does_250 : decode cL_does 250 = .ok (.iload_n 3, 1) := by decide +kernel
theorem dL_does_251 : decode cL_does 251 = .ok (.iload_n 1, 1) := by decide +kernel
theorem dL_does_252 : decode cL_does 252 = .ok (.bipush 8, 2) := by decide +kernel
theorem dL_does_254 : decode cL_does 254 = .ok (.ishr, 1) := by decide +kernel
theorem dL_does_255 : decode cL_does 255 = .ok (.ldc 68, 2) := by decide +kernel
theorem dL_does_257 : decode cL_does 257 = .ok (.invokestatic 37, 3) := by decide +kernel
theorem dL_does_260 : decode cL_does 260 = .ok (.invokevirtual 65, 3) := by decide +kernel
theorem dL_does_263 : decode cL_does 263 = .ok (.ireturn, 1) := by decide +kernel
theorem dL_does_264 : decode cL_does 264 = .ok (.aload_n 0, 1) := by decide +kernel
theorem dL_does_265 : decode cL_does 265 = .ok (.iload_n 3, 1) := by decide +kernel
theorem dL_does_266 : decode cL_does 266 = .ok (.iload_n 1, 1) := by decide +kernel
theorem dL_does_267 : decode cL_does 267 = .ok (.bipush 8, 2) := by decide +kernel
theorem dL_does_269 : decode cL_does 269 = .ok (.ishr, 1) := by decide +kernel
theorem dL_does_270 : decode cL_does 270 = .ok (.iconst 1, 1) := by decide +kernel
theorem dL_does_271 : decode cL_does 271 = .ok (.iand, 1) := by decide +kernel
theorem dL_does_272 : decode cL_does 272 = .ok (.iload_n 1, 1) := by decide +kernel
theorem dL_does_273 : decode cL_does 273 = .ok (.bipush 9, 2) := by decide +kernel
theorem dL_does_275 : decode cL_does 275 = .ok (.ishr, 1) := by decide +kernel
theorem dL_does_276 : decode cL_does 276 = .ok (.bipush 26, 2) := by decide +kernel
theorem dL_does_278 : decode cL_does 278 = .ok (.invokestatic 37, 3) := by decide +kernel
theorem dL_does_281 : decode cL_does 281 = .ok (.iconst 1, 1) := by decide +kernel
theorem dL_does_282 : decode cL_does 282 = .ok (.iload_n 1, 1) := by decide +kernel
theorem dL_does_283 : decode cL_does 283 = .ok (.bipush 14, 2) := by decide +kernel
theorem dL_does_285 : decode cL_does 285 = .ok (.ishr, 1) := by decide +kernel
theorem dL_does_286 : decode cL_does 286 = .ok (.bipush 20, 2) := by decide +kernel
theorem dL_does_288 : decode cL_does 288 = .ok (.invokestatic 37, 3) := by decide +kernel
theorem dL_does_291 : decode cL_does 291 = .ok (.iadd, 1) := by decide +kernel
theorem dL_does_292 : decode cL_does 292 = .ok (.invokevirtual 69, 3) := by decide +kernel
theorem dL_does_295 : decode cL_does 295 = .ok (.ireturn, 1) := by decide +kernel
