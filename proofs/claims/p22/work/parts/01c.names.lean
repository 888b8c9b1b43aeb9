/-! ===== BEGIN printed: names, fields, word lists, decode rows ===== -/
def RX0 : String := "InvoiceSmith$Bill"
def TX0 : u_T := fun k => match k with
  | 0 => ("InvoiceSmith$Bill", "kinds", "[I", true)
  | 1 => ("InvoiceSmith$Bill", "quantities", "[I", true)
  | 2 => ("InvoiceSmith$Bill", "prices", "[I", true)
  | 3 => ("InvoiceSmith$Bill", "lineCount", "I", false)
  | 4 => ("InvoiceSmith$Bill", "number", "I", false)
  | 5 => ("InvoiceSmith$Bill", "client", "I", false)
  | 6 => ("InvoiceSmith$Bill", "day", "I", false)
  | 7 => ("InvoiceSmith$Bill", "place", "I", false)
  | 8 => ("InvoiceSmith$Bill", "way", "I", false)
  | 9 => ("InvoiceSmith$Bill", "tellings", "[I", true)
  | 10 => ("InvoiceSmith$Bill", "hundredths", "[I", true)
  | 11 => ("InvoiceSmith$Bill", "tax", "I", false)
  | _ => ("InvoiceSmith$Bill", "noted", "I", false)
def tyX0 : Nat → FieldType := fun k => match k with
  | 0 => .array .int
  | 1 => .array .int
  | 2 => .array .int
  | 3 => .int
  | 4 => .int
  | 5 => .int
  | 6 => .int
  | 7 => .int
  | 8 => .int
  | 9 => .array .int
  | 10 => .array .int
  | 11 => .int
  | _ => .int
abbrev wsX00 : List Cond := u_ws RX0 TX0 13
theorem nmX0 : ∀ a, a < 13 → ∀ b, b < 13 → a ≠ b → (TX0 a).2.1 ≠ (TX0 b).2.1 := by decide +kernel
theorem tyX0_ok : ∀ k, k < 13 → parseFieldDescriptor (TX0 k).2.2.1 = some (tyX0 k) := by decide +kernel
abbrev cX0_init : ByteArray := prog_2_method_1_code
def yX0_init : MethodName := ⟨RX0, "<init>", "()V"⟩
abbrev cX0_hasLine : ByteArray := prog_2_method_2_code
def yX0_hasLine : MethodName := ⟨RX0, "hasLine", "(I)Z"⟩
abbrev cX0_addLine : ByteArray := prog_2_method_3_code
def yX0_addLine : MethodName := ⟨RX0, "addLine", "(III)V"⟩
abbrev cX0_amountOf : ByteArray := prog_2_method_5_code
def yX0_amountOf : MethodName := ⟨RX0, "amountOf", "(I)I"⟩
abbrev cX0_sumOfAmounts : ByteArray := prog_2_method_6_code
def yX0_sumOfAmounts : MethodName := ⟨RX0, "sumOfAmounts", "()I"⟩
abbrev cX0_taxWithNotes : ByteArray := prog_2_method_7_code
def yX0_taxWithNotes : MethodName := ⟨RX0, "taxWithNotes", "()I"⟩
abbrev cX0_taxBy : ByteArray := prog_2_method_8_code
def yX0_taxBy : MethodName := ⟨RX0, "taxBy", "([I)I"⟩
abbrev cX0_taxByLine : ByteArray := prog_2_method_9_code
def yX0_taxByLine : MethodName := ⟨RX0, "taxByLine", "([I)I"⟩
abbrev cX0_taxByKind : ByteArray := prog_2_method_10_code
def yX0_taxByKind : MethodName := ⟨RX0, "taxByKind", "([I)I"⟩
abbrev cX0_taxByAll : ByteArray := prog_2_method_11_code
def yX0_taxByAll : MethodName := ⟨RX0, "taxByAll", "([I)I"⟩
abbrev cX0_timesRate : ByteArray := prog_2_method_12_code
def yX0_timesRate : MethodName := ⟨RX0, "timesRate", "(I[I)I"⟩
abbrev cX0_hundredth : ByteArray := prog_2_method_13_code
def yX0_hundredth : MethodName := ⟨RX0, "hundredth", "(I)I"⟩
abbrev cX0_numberNamed : ByteArray := prog_2_method_14_code
def yX0_numberNamed : MethodName := ⟨RX0, "numberNamed", "(CI)I"⟩
def RX1 : String := "InvoiceSmith$Form"
def TX1 : u_T := fun k => match k with
  | 0 => ("InvoiceSmith$Form", "deeds", "[I", true)
  | 1 => ("InvoiceSmith$Form", "firsts", "[I", true)
  | 2 => ("InvoiceSmith$Form", "seconds", "[I", true)
  | _ => ("InvoiceSmith$Form", "size", "I", false)
def tyX1 : Nat → FieldType := fun k => match k with
  | 0 => .array .int
  | 1 => .array .int
  | 2 => .array .int
  | _ => .int
abbrev wsX10 : List Cond := u_ws RX1 TX1 4
theorem nmX1 : ∀ a, a < 4 → ∀ b, b < 4 → a ≠ b → (TX1 a).2.1 ≠ (TX1 b).2.1 := by decide +kernel
theorem tyX1_ok : ∀ k, k < 4 → parseFieldDescriptor (TX1 k).2.2.1 = some (tyX1 k) := by decide +kernel
abbrev cX1_init : ByteArray := prog_3_method_1_code
def yX1_init : MethodName := ⟨RX1, "<init>", "()V"⟩
abbrev cX1_add : ByteArray := prog_3_method_2_code
def yX1_add : MethodName := ⟨RX1, "add", "(III)I"⟩
abbrev cX1_aimHere : ByteArray := prog_3_method_3_code
def yX1_aimHere : MethodName := ⟨RX1, "aimHere", "(I)V"⟩
def RX2 : String := "InvoiceSmith$Ledger"
def TX2 : u_T := fun k => match k with
  | 0 => ("InvoiceSmith$Ledger", "invoices", "[I", true)
  | 1 => ("InvoiceSmith$Ledger", "differences", "[I", true)
  | 2 => ("InvoiceSmith$Ledger", "days", "[I", true)
  | _ => ("InvoiceSmith$Ledger", "count", "I", false)
def tyX2 : Nat → FieldType := fun k => match k with
  | 0 => .array .int
  | 1 => .array .int
  | 2 => .array .int
  | _ => .int
abbrev wsX20 : List Cond := u_ws RX2 TX2 4
theorem nmX2 : ∀ a, a < 4 → ∀ b, b < 4 → a ≠ b → (TX2 a).2.1 ≠ (TX2 b).2.1 := by decide +kernel
theorem tyX2_ok : ∀ k, k < 4 → parseFieldDescriptor (TX2 k).2.2.1 = some (tyX2 k) := by decide +kernel
abbrev cX2_init : ByteArray := prog_4_method_1_code
def yX2_init : MethodName := ⟨RX2, "<init>", "()V"⟩
abbrev cX2_enter : ByteArray := prog_4_method_2_code
def yX2_enter : MethodName := ⟨RX2, "enter", "(III)V"⟩
def RX3 : String := "InvoiceSmith$Page"
def TX3 : u_T := fun k => match k with
  | 0 => ("InvoiceSmith$Page", "signs", "[I", true)
  | _ => ("InvoiceSmith$Page", "size", "I", false)
def tyX3 : Nat → FieldType := fun k => match k with
  | 0 => .array .int
  | _ => .int
abbrev wsX30 : List Cond := u_ws RX3 TX3 2
theorem nmX3 : ∀ a, a < 2 → ∀ b, b < 2 → a ≠ b → (TX3 a).2.1 ≠ (TX3 b).2.1 := by decide +kernel
theorem tyX3_ok : ∀ k, k < 2 → parseFieldDescriptor (TX3 k).2.2.1 = some (tyX3 k) := by decide +kernel
abbrev cX3_init : ByteArray := prog_5_method_1_code
def yX3_init : MethodName := ⟨RX3, "<init>", "()V"⟩
abbrev cX3_countSigns : ByteArray := prog_5_method_2_code
def yX3_countSigns : MethodName := ⟨RX3, "countSigns", "(J)I"⟩
abbrev cX3_append : ByteArray := prog_5_method_3_code
def yX3_append : MethodName := ⟨RX3, "append", "(JI)V"⟩
abbrev cX3_signAt : ByteArray := prog_5_method_4_code
def yX3_signAt : MethodName := ⟨RX3, "signAt", "(I)C"⟩
def RX4 : String := "InvoiceSmith$Rates"
def TX4 : u_T := fun k => match k with
  | 0 => ("InvoiceSmith$Rates", "places", "[I", true)
  | 1 => ("InvoiceSmith$Rates", "kinds", "[I", true)
  | 2 => ("InvoiceSmith$Rates", "hundredths", "[I", true)
  | 3 => ("InvoiceSmith$Rates", "froms", "[I", true)
  | _ => ("InvoiceSmith$Rates", "count", "I", false)
def tyX4 : Nat → FieldType := fun k => match k with
  | 0 => .array .int
  | 1 => .array .int
  | 2 => .array .int
  | 3 => .array .int
  | _ => .int
abbrev wsX40 : List Cond := u_ws RX4 TX4 5
theorem nmX4 : ∀ a, a < 5 → ∀ b, b < 5 → a ≠ b → (TX4 a).2.1 ≠ (TX4 b).2.1 := by decide +kernel
theorem tyX4_ok : ∀ k, k < 5 → parseFieldDescriptor (TX4 k).2.2.1 = some (tyX4 k) := by decide +kernel
abbrev cX4_init : ByteArray := prog_6_method_1_code
def yX4_init : MethodName := ⟨RX4, "<init>", "()V"⟩
abbrev cX4_tell : ByteArray := prog_6_method_2_code
def yX4_tell : MethodName := ⟨RX4, "tell", "(IIII)I"⟩
abbrev cX4_known : ByteArray := prog_6_method_3_code
def yX4_known : MethodName := ⟨RX4, "known", "(III)I"⟩
abbrev cX4_fillTellings : ByteArray := prog_6_method_4_code
def yX4_fillTellings : MethodName := ⟨RX4, "fillTellings", "(II[I)V"⟩
abbrev cX4_fillHundredths : ByteArray := prog_6_method_5_code
def yX4_fillHundredths : MethodName := ⟨RX4, "fillHundredths", "(II[I)V"⟩
def RX5 : String := "InvoiceSmith$Reader"
def TX5 : u_T := fun k => match k with
  | 0 => ("InvoiceSmith$Reader", "page", "LInvoiceSmith$Page;", true)
  | 1 => ("InvoiceSmith$Reader", "form", "LInvoiceSmith$Form;", false)
  | 2 => ("InvoiceSmith$Reader", "at", "I", false)
  | _ => ("InvoiceSmith$Reader", "parts", "I", false)
def tyX5 : Nat → FieldType := fun k => match k with
  | 0 => .object "InvoiceSmith$Page"
  | 1 => .object "InvoiceSmith$Form"
  | 2 => .int
  | _ => .int
abbrev wsX50 : List Cond := u_ws RX5 TX5 4
theorem nmX5 : ∀ a, a < 4 → ∀ b, b < 4 → a ≠ b → (TX5 a).2.1 ≠ (TX5 b).2.1 := by decide +kernel
theorem tyX5_ok : ∀ k, k < 4 → parseFieldDescriptor (TX5 k).2.2.1 = some (tyX5 k) := by decide +kernel
abbrev cX5_init : ByteArray := prog_7_method_1_code
def yX5_init : MethodName := ⟨RX5, "<init>", "()V"⟩
abbrev cX5_readPage : ByteArray := prog_7_method_2_code
def yX5_readPage : MethodName := ⟨RX5, "readPage", "()I"⟩
abbrev cX5_handOver : ByteArray := prog_7_method_3_code
def yX5_handOver : MethodName := ⟨RX5, "handOver", "(LInvoiceSmith$Form;)LInvoiceSmith$Form;"⟩
abbrev cX5_readParts : ByteArray := prog_7_method_4_code
def yX5_readParts : MethodName := ⟨RX5, "readParts", "(IZZ)Z"⟩
abbrev cX5_endsLoop : ByteArray := prog_7_method_5_code
def yX5_endsLoop : MethodName := ⟨RX5, "endsLoop", "()Z"⟩
abbrev cX5_readLoop : ByteArray := prog_7_method_6_code
def yX5_readLoop : MethodName := ⟨RX5, "readLoop", "(I)Z"⟩
abbrev cX5_readChoice : ByteArray := prog_7_method_7_code
def yX5_readChoice : MethodName := ⟨RX5, "readChoice", "(IZ)Z"⟩
abbrev cX5_readField : ByteArray := prog_7_method_8_code
def yX5_readField : MethodName := ⟨RX5, "readField", "(Z)Z"⟩
abbrev cX5_readSum : ByteArray := prog_7_method_9_code
def yX5_readSum : MethodName := ⟨RX5, "readSum", "(Z)Z"⟩
abbrev cX5_readTerm : ByteArray := prog_7_method_10_code
def yX5_readTerm : MethodName := ⟨RX5, "readTerm", "(IZ)Z"⟩
abbrev cX5_isName : ByteArray := prog_7_method_11_code
def yX5_isName : MethodName := ⟨RX5, "isName", "(CZ)Z"⟩
abbrev cX5_isDigit : ByteArray := prog_7_method_12_code
def yX5_isDigit : MethodName := ⟨RX5, "isDigit", "(C)Z"⟩
abbrev cX5_skip : ByteArray := prog_7_method_13_code
def yX5_skip : MethodName := ⟨RX5, "skip", "(C)Z"⟩
def RX6 : String := "InvoiceSmith$Writer"
def TX6 : u_T := fun k => match k with
  | 0 => ("InvoiceSmith$Writer", "digits", "[I", true)
  | 1 => ("InvoiceSmith$Writer", "count", "I", false)
  | 2 => ("InvoiceSmith$Writer", "wanted", "I", false)
  | 3 => ("InvoiceSmith$Writer", "kept", "C", false)
  | 4 => ("InvoiceSmith$Writer", "line", "I", false)
  | 5 => ("InvoiceSmith$Writer", "left", "J", false)
  | _ => ("InvoiceSmith$Writer", "sum", "J", false)
def tyX6 : Nat → FieldType := fun k => match k with
  | 0 => .array .int
  | 1 => .int
  | 2 => .int
  | 3 => .char
  | 4 => .int
  | 5 => .long
  | _ => .long
abbrev wsX60 : List Cond := u_ws RX6 TX6 7
theorem nmX6 : ∀ a, a < 7 → ∀ b, b < 7 → a ≠ b → (TX6 a).2.1 ≠ (TX6 b).2.1 := by decide +kernel
theorem tyX6_ok : ∀ k, k < 7 → parseFieldDescriptor (TX6 k).2.2.1 = some (tyX6 k) := by decide +kernel
abbrev cX6_init : ByteArray := prog_8_method_1_code
def yX6_init : MethodName := ⟨RX6, "<init>", "()V"⟩
abbrev cX6_write : ByteArray := prog_8_method_2_code
def yX6_write : MethodName := ⟨RX6, "write", "(LInvoiceSmith$Bill;LInvoiceSmith$Form;I)V"⟩
abbrev cX6_step : ByteArray := prog_8_method_3_code
def yX6_step : MethodName := ⟨RX6, "step", "(LInvoiceSmith$Bill;LInvoiceSmith$Form;I)I"⟩
abbrev cX6_compareSums : ByteArray := prog_8_method_4_code
def yX6_compareSums : MethodName := ⟨RX6, "compareSums", "(C)Z"⟩
abbrev cX6_nextLine : ByteArray := prog_8_method_5_code
def yX6_nextLine : MethodName := ⟨RX6, "nextLine", "(LInvoiceSmith$Bill;)Z"⟩
abbrev cX6_put : ByteArray := prog_8_method_6_code
def yX6_put : MethodName := ⟨RX6, "put", "(C)V"⟩
abbrev cX6_putNumber : ByteArray := prog_8_method_7_code
def yX6_putNumber : MethodName := ⟨RX6, "putNumber", "(II)V"⟩
def RX7 : String := "InvoiceSmith"
def TX7 : u_T := fun k => match k with
  | 0 => ("InvoiceSmith", "reader", "LInvoiceSmith$Reader;", true)
  | 1 => ("InvoiceSmith", "writer", "LInvoiceSmith$Writer;", true)
  | 2 => ("InvoiceSmith", "forms", "[LInvoiceSmith$Form;", true)
  | 3 => ("InvoiceSmith", "formCount", "I", false)
  | 4 => ("InvoiceSmith", "today", "I", false)
  | 5 => ("InvoiceSmith", "rates", "LInvoiceSmith$Rates;", true)
  | 6 => ("InvoiceSmith", "ways", "[I", true)
  | 7 => ("InvoiceSmith", "placesOfClients", "[I", true)
  | 8 => ("InvoiceSmith", "draft", "LInvoiceSmith$Bill;", false)
  | 9 => ("InvoiceSmith", "bills", "[LInvoiceSmith$Bill;", true)
  | 10 => ("InvoiceSmith", "billCount", "I", false)
  | 11 => ("InvoiceSmith", "hundredthsNow", "[I", true)
  | _ => ("InvoiceSmith", "ledger", "LInvoiceSmith$Ledger;", true)
def tyX7 : Nat → FieldType := fun k => match k with
  | 0 => .object "InvoiceSmith$Reader"
  | 1 => .object "InvoiceSmith$Writer"
  | 2 => .array (.object "InvoiceSmith$Form")
  | 3 => .int
  | 4 => .int
  | 5 => .object "InvoiceSmith$Rates"
  | 6 => .array .int
  | 7 => .array .int
  | 8 => .object "InvoiceSmith$Bill"
  | 9 => .array (.object "InvoiceSmith$Bill")
  | 10 => .int
  | 11 => .array .int
  | _ => .object "InvoiceSmith$Ledger"
abbrev wsX70 : List Cond := u_ws RX7 TX7 13
theorem nmX7 : ∀ a, a < 13 → ∀ b, b < 13 → a ≠ b → (TX7 a).2.1 ≠ (TX7 b).2.1 := by decide +kernel
theorem tyX7_ok : ∀ k, k < 13 → parseFieldDescriptor (TX7 k).2.2.1 = some (tyX7 k) := by decide +kernel
abbrev cX7_init : ByteArray := prog_1_method_1_code
def yX7_init : MethodName := ⟨RX7, "<init>", "()V"⟩
abbrev cX7_type : ByteArray := prog_1_method_2_code
def yX7_type : MethodName := ⟨RX7, "type", "(J)I"⟩
abbrev cX7_template : ByteArray := prog_1_method_3_code
def yX7_template : MethodName := ⟨RX7, "template", "(I)I"⟩
abbrev cX7_pass : ByteArray := prog_1_method_4_code
def yX7_pass : MethodName := ⟨RX7, "pass", "(I)I"⟩
abbrev cX7_rate : ByteArray := prog_1_method_5_code
def yX7_rate : MethodName := ⟨RX7, "rate", "(IIII)I"⟩
abbrev cX7_telling : ByteArray := prog_1_method_6_code
def yX7_telling : MethodName := ⟨RX7, "telling", "(III)I"⟩
abbrev cX7_round : ByteArray := prog_1_method_7_code
def yX7_round : MethodName := ⟨RX7, "round", "(II)I"⟩
abbrev cX7_client : ByteArray := prog_1_method_8_code
def yX7_client : MethodName := ⟨RX7, "client", "(II)I"⟩
abbrev cX7_line : ByteArray := prog_1_method_9_code
def yX7_line : MethodName := ⟨RX7, "line", "(III)I"⟩
abbrev cX7_make : ByteArray := prog_1_method_11_code
def yX7_make : MethodName := ⟨RX7, "make", "(I)I"⟩
abbrev cX7_invoice : ByteArray := prog_1_method_12_code
def yX7_invoice : MethodName := ⟨RX7, "invoice", "(II)I"⟩
abbrev cX7_taxAnew : ByteArray := prog_1_method_13_code
def yX7_taxAnew : MethodName := ⟨RX7, "taxAnew", "(I)I"⟩
abbrev cX7_used : ByteArray := prog_1_method_14_code
def yX7_used : MethodName := ⟨RX7, "used", "(II)I"⟩
abbrev cX7_written : ByteArray := prog_1_method_15_code
def yX7_written : MethodName := ⟨RX7, "written", "(III)C"⟩
abbrev cX7_length : ByteArray := prog_1_method_16_code
def yX7_length : MethodName := ⟨RX7, "length", "(II)I"⟩
abbrev cX7_settle : ByteArray := prog_1_method_17_code
def yX7_settle : MethodName := ⟨RX7, "settle", "(I)I"⟩
abbrev cX7_notes : ByteArray := prog_1_method_18_code
def yX7_notes : MethodName := ⟨RX7, "notes", "()I"⟩
abbrev cX7_owed : ByteArray := prog_1_method_20_code
def yX7_owed : MethodName := ⟨RX7, "owed", "(I)I"⟩
abbrev cX7_checkPlace : ByteArray := prog_1_method_21_code
def yX7_checkPlace : MethodName := ⟨RX7, "checkPlace", "(I)V"⟩
abbrev cX7_checkKind : ByteArray := prog_1_method_22_code
def yX7_checkKind : MethodName := ⟨RX7, "checkKind", "(I)V"⟩
abbrev cX7_checkClient : ByteArray := prog_1_method_23_code
def yX7_checkClient : MethodName := ⟨RX7, "checkClient", "(I)V"⟩
abbrev cX7_findBill : ByteArray := prog_1_method_24_code
def yX7_findBill : MethodName := ⟨RX7, "findBill", "(I)LInvoiceSmith$Bill;"⟩
abbrev cX7_findForm : ByteArray := prog_1_method_25_code
def yX7_findForm : MethodName := ⟨RX7, "findForm", "(I)LInvoiceSmith$Form;"⟩
abbrev cX7_taxKnownNow : ByteArray := prog_1_method_26_code
def yX7_taxKnownNow : MethodName := ⟨RX7, "taxKnownNow", "(LInvoiceSmith$Bill;)I"⟩
abbrev cX7_makeGood : ByteArray := prog_1_method_27_code
def yX7_makeGood : MethodName := ⟨RX7, "makeGood", "(LInvoiceSmith$Bill;)V"⟩
abbrev cX7_get : ByteArray := prog_1_method_28_code
def yX7_get : MethodName := ⟨RX7, "get", "([II)I"⟩
abbrev cX7_set : ByteArray := prog_1_method_29_code
def yX7_set : MethodName := ⟨RX7, "set", "([III)V"⟩
def RX8 : String := "InvoiceSmithModel"
def TX8 : u_T := fun k => match k with
  | _ => ("", "", "", false)
def tyX8 : Nat → FieldType := fun k => match k with
  | _ => .int
abbrev wsX80 : List Cond := u_ws RX8 TX8 0
theorem nmX8 : ∀ a, a < 0 → ∀ b, b < 0 → a ≠ b → (TX8 a).2.1 ≠ (TX8 b).2.1 := by decide +kernel
theorem tyX8_ok : ∀ k, k < 0 → parseFieldDescriptor (TX8 k).2.2.1 = some (tyX8 k) := by decide +kernel
def RJ11 : String := "java/lang/Character"
def TJ11 : u_T := fun k => match k with
  | _ => ("", "", "", false)
def tyJ11 : Nat → FieldType := fun k => match k with
  | _ => .int
abbrev wsJ110 : List Cond := u_ws RJ11 TJ11 0
theorem nmJ11 : ∀ a, a < 0 → ∀ b, b < 0 → a ≠ b → (TJ11 a).2.1 ≠ (TJ11 b).2.1 := by decide +kernel
theorem tyJ11_ok : ∀ k, k < 0 → parseFieldDescriptor (TJ11 k).2.2.1 = some (tyJ11 k) := by decide +kernel
abbrev cJ11_isValidCodePoint_9a6ad : ByteArray := prog_11_method_11_code
def yJ11_isValidCodePoint_9a6ad : MethodName := ⟨RJ11, "isValidCodePoint", "(I)Z"⟩
abbrev cJ11_highSurrogate_5068e : ByteArray := prog_11_method_28_code
def yJ11_highSurrogate_5068e : MethodName := ⟨RJ11, "highSurrogate", "(I)C"⟩
abbrev cJ11_lowSurrogate_5068e : ByteArray := prog_11_method_29_code
def yJ11_lowSurrogate_5068e : MethodName := ⟨RJ11, "lowSurrogate", "(I)C"⟩
def RJ9 : String := "java/lang/Math"
def TJ9 : u_T := fun k => match k with
  | _ => ("", "", "", false)
def tyJ9 : Nat → FieldType := fun k => match k with
  | _ => .int
abbrev wsJ90 : List Cond := u_ws RJ9 TJ9 0
theorem nmJ9 : ∀ a, a < 0 → ∀ b, b < 0 → a ≠ b → (TJ9 a).2.1 ≠ (TJ9 b).2.1 := by decide +kernel
theorem tyJ9_ok : ∀ k, k < 0 → parseFieldDescriptor (TJ9 k).2.2.1 = some (tyJ9 k) := by decide +kernel
abbrev cJ9_max_7cf53 : ByteArray := prog_16_method_65_code
def yJ9_max_7cf53 : MethodName := ⟨RJ9, "max", "(II)I"⟩
abbrev cJ9_min_7cf53 : ByteArray := prog_16_method_69_code
def yJ9_min_7cf53 : MethodName := ⟨RJ9, "min", "(II)I"⟩
def RJ0 : String := "java/lang/String"
def TJ0 : u_T := fun k => match k with
  | _ => ("", "", "", false)
def tyJ0 : Nat → FieldType := fun k => match k with
  | _ => .int
abbrev wsJ00 : List Cond := u_ws RJ0 TJ0 0
theorem nmJ0 : ∀ a, a < 0 → ∀ b, b < 0 → a ≠ b → (TJ0 a).2.1 ≠ (TJ0 b).2.1 := by decide +kernel
theorem tyJ0_ok : ∀ k, k < 0 → parseFieldDescriptor (TJ0 k).2.2.1 = some (tyJ0 k) := by decide +kernel
abbrev cJ0_length_8abf5 : ByteArray := prog_18_method_54_code
def yJ0_length_8abf5 : MethodName := ⟨RJ0, "length", "()I"⟩
abbrev cJ0_indexOf_0f7a4 : ByteArray := prog_18_method_79_code
def yJ0_indexOf_0f7a4 : MethodName := ⟨RJ0, "indexOf", "(I)I"⟩
abbrev cJ0_indexOf_7cf53 : ByteArray := prog_18_method_80_code
def yJ0_indexOf_7cf53 : MethodName := ⟨RJ0, "indexOf", "(II)I"⟩
abbrev cJ0_coder_7d493 : ByteArray := prog_18_method_152_code
def yJ0_coder_7d493 : MethodName := ⟨RJ0, "coder", "()B"⟩
abbrev cJ0_isLatin1_aae02 : ByteArray := prog_18_method_154_code
def yJ0_isLatin1_aae02 : MethodName := ⟨RJ0, "isLatin1", "()Z"⟩
abbrev cJ0_checkBoundsBeginEnd_23922 : ByteArray := prog_18_method_158_code
def yJ0_checkBoundsBeginEnd_23922 : MethodName := ⟨RJ0, "checkBoundsBeginEnd", "(III)V"⟩
def RJ1 : String := "java/lang/StringLatin1"
def TJ1 : u_T := fun k => match k with
  | _ => ("", "", "", false)
def tyJ1 : Nat → FieldType := fun k => match k with
  | _ => .int
abbrev wsJ10 : List Cond := u_ws RJ1 TJ1 0
theorem nmJ1 : ∀ a, a < 0 → ∀ b, b < 0 → a ≠ b → (TJ1 a).2.1 ≠ (TJ1 b).2.1 := by decide +kernel
theorem tyJ1_ok : ∀ k, k < 0 → parseFieldDescriptor (TJ1 k).2.2.1 = some (tyJ1 k) := by decide +kernel
abbrev cJ1_canEncode_9a6ad : ByteArray := prog_19_method_4_code
def yJ1_canEncode_9a6ad : MethodName := ⟨RJ1, "canEncode", "(I)Z"⟩
abbrev cJ1_indexOf_4cfef : ByteArray := prog_19_method_22_code
def yJ1_indexOf_4cfef : MethodName := ⟨RJ1, "indexOf", "([BIII)I"⟩
abbrev cJ1_indexOfChar_4cfef : ByteArray := prog_19_method_23_code
def yJ1_indexOfChar_4cfef : MethodName := ⟨RJ1, "indexOfChar", "([BIII)I"⟩
def RJ2 : String := "java/lang/StringUTF16"
def TJ2 : u_T := fun k => match k with
  | _ => ("", "", "", false)
def tyJ2 : Nat → FieldType := fun k => match k with
  | _ => .int
abbrev wsJ20 : List Cond := u_ws RJ2 TJ2 0
theorem nmJ2 : ∀ a, a < 0 → ∀ b, b < 0 → a ≠ b → (TJ2 a).2.1 ≠ (TJ2 b).2.1 := by decide +kernel
theorem tyJ2_ok : ∀ k, k < 0 → parseFieldDescriptor (TJ2 k).2.2.1 = some (tyJ2 k) := by decide +kernel
abbrev cJ2_getChar_3b067 : ByteArray := prog_20_method_5_code
def yJ2_getChar_3b067 : MethodName := ⟨RJ2, "getChar", "([BI)C"⟩
abbrev cJ2_length_9d52b : ByteArray := prog_20_method_6_code
def yJ2_length_9d52b : MethodName := ⟨RJ2, "length", "([B)I"⟩
abbrev cJ2_indexOf_4cfef : ByteArray := prog_20_method_40_code
def yJ2_indexOf_4cfef : MethodName := ⟨RJ2, "indexOf", "([BIII)I"⟩
abbrev cJ2_indexOfChar_4cfef : ByteArray := prog_20_method_47_code
def yJ2_indexOfChar_4cfef : MethodName := ⟨RJ2, "indexOfChar", "([BIII)I"⟩
abbrev cJ2_indexOfCharUnsafe_4cfef : ByteArray := prog_20_method_48_code
def yJ2_indexOfCharUnsafe_4cfef : MethodName := ⟨RJ2, "indexOfCharUnsafe", "([BIII)I"⟩
abbrev cJ2_indexOfSupplementary_4cfef : ByteArray := prog_20_method_49_code
def yJ2_indexOfSupplementary_4cfef : MethodName := ⟨RJ2, "indexOfSupplementary", "([BIII)I"⟩
abbrev cJ2_checkBoundsBeginEnd_d044e : ByteArray := prog_20_method_93_code
def yJ2_checkBoundsBeginEnd_d044e : MethodName := ⟨RJ2, "checkBoundsBeginEnd", "(II[B)V"⟩
def RJ3 : String := "jdk/internal/util/Preconditions"
def TJ3 : u_T := fun k => match k with
  | _ => ("", "", "", false)
def tyJ3 : Nat → FieldType := fun k => match k with
  | _ => .int
abbrev wsJ30 : List Cond := u_ws RJ3 TJ3 0
theorem nmJ3 : ∀ a, a < 0 → ∀ b, b < 0 → a ≠ b → (TJ3 a).2.1 ≠ (TJ3 b).2.1 := by decide +kernel
theorem tyJ3_ok : ∀ k, k < 0 → parseFieldDescriptor (TJ3 k).2.2.1 = some (tyJ3 k) := by decide +kernel
abbrev cJ3_checkFromToIndex_8c36e : ByteArray := prog_22_method_12_code
def yJ3_checkFromToIndex_8c36e : MethodName := ⟨RJ3, "checkFromToIndex", "(IIILjava/util/function/BiFunction;)I"⟩
def RL : String := "InvoiceSmithLaw"
abbrev cL_cell : ByteArray := method_2_code
def yL_cell : MethodName := ⟨RL, "cell", "([II)I"⟩
abbrev cL_low : ByteArray := method_3_code
def yL_low : MethodName := ⟨RL, "low", "(II)I"⟩
abbrev cL_telling : ByteArray := method_4_code
def yL_telling : MethodName := ⟨RL, "telling", "([IIIII)I"⟩
abbrev cL_tax : ByteArray := method_5_code
def yL_tax : MethodName := ⟨RL, "tax", "([I[I[II[I)I"⟩
abbrev cL_now : ByteArray := method_6_code
def yL_now : MethodName := ⟨RL, "now", "([II[I[II)I"⟩
abbrev cL_types : ByteArray := method_7_code
def yL_types : MethodName := ⟨RL, "types", "(LInvoiceSmith;JJ)Z"⟩
abbrev cL_number : ByteArray := method_8_code
def yL_number : MethodName := ⟨RL, "number", "(LInvoiceSmith;IIII)I"⟩
abbrev cL_sign : ByteArray := method_9_code
def yL_sign : MethodName := ⟨RL, "sign", "(LInvoiceSmith;III)I"⟩
abbrev cL_law : ByteArray := code
def yL_law : MethodName := ⟨RL, "law", "([I)Z"⟩
abbrev vwCl : List vw_C := [(RX0, TX0, 13), (RX1, TX1, 4), (RX2, TX2, 4), (RX3, TX3, 2), (RX4, TX4, 5), (RX5, TX5, 4), (RX6, TX6, 7), (RX7, TX7, 13)]
