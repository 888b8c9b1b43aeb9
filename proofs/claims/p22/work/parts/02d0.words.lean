set_option maxRecDepth 20000 in
theorem tb0 : Cond.selects "java/lang/Throwable" ⟨"java/lang/Throwable", "fillInStackTrace", "(I)Ljava/lang/Throwable;"⟩ ⟨"java/lang/Throwable", "fillInStackTrace", "(I)Ljava/lang/Throwable;"⟩ ∈ TB := TB_mem 0 (by decide +kernel) (by decide +kernel)
set_option maxRecDepth 20000 in
theorem tb1 : Cond.selects "InvoiceSmith$Reader" ⟨"InvoiceSmith$Reader", "readPage", "()I"⟩ ⟨"InvoiceSmith$Reader", "readPage", "()I"⟩ ∈ TB := TB_mem 1 (by decide +kernel) (by decide +kernel)
set_option maxRecDepth 20000 in
theorem tb2 : Cond.selects "InvoiceSmith$Reader" ⟨"InvoiceSmith$Reader", "readParts", "(IZZ)Z"⟩ ⟨"InvoiceSmith$Reader", "readParts", "(IZZ)Z"⟩ ∈ TB := TB_mem 2 (by decide +kernel) (by decide +kernel)
set_option maxRecDepth 20000 in
theorem tb3 : Cond.selects "InvoiceSmith$Page" ⟨"InvoiceSmith$Page", "signAt", "(I)C"⟩ ⟨"InvoiceSmith$Page", "signAt", "(I)C"⟩ ∈ TB := TB_mem 3 (by decide +kernel) (by decide +kernel)
set_option maxRecDepth 20000 in
theorem tb4 : Cond.selects "InvoiceSmith$Reader" ⟨"InvoiceSmith$Reader", "endsLoop", "()Z"⟩ ⟨"InvoiceSmith$Reader", "endsLoop", "()Z"⟩ ∈ TB := TB_mem 4 (by decide +kernel) (by decide +kernel)
set_option maxRecDepth 20000 in
theorem tb5 : Cond.selects "InvoiceSmith$Form" ⟨"InvoiceSmith$Form", "add", "(III)I"⟩ ⟨"InvoiceSmith$Form", "add", "(III)I"⟩ ∈ TB := TB_mem 5 (by decide +kernel) (by decide +kernel)
set_option maxRecDepth 20000 in
theorem tb6 : Cond.selects "InvoiceSmith$Reader" ⟨"InvoiceSmith$Reader", "readLoop", "(I)Z"⟩ ⟨"InvoiceSmith$Reader", "readLoop", "(I)Z"⟩ ∈ TB := TB_mem 6 (by decide +kernel) (by decide +kernel)
set_option maxRecDepth 20000 in
theorem tb7 : Cond.selects "InvoiceSmith$Reader" ⟨"InvoiceSmith$Reader", "readChoice", "(IZ)Z"⟩ ⟨"InvoiceSmith$Reader", "readChoice", "(IZ)Z"⟩ ∈ TB := TB_mem 7 (by decide +kernel) (by decide +kernel)
set_option maxRecDepth 20000 in
theorem tb8 : Cond.selects "InvoiceSmith$Reader" ⟨"InvoiceSmith$Reader", "readSum", "(Z)Z"⟩ ⟨"InvoiceSmith$Reader", "readSum", "(Z)Z"⟩ ∈ TB := TB_mem 8 (by decide +kernel) (by decide +kernel)
set_option maxRecDepth 20000 in
theorem tb9 : Cond.selects "InvoiceSmith$Reader" ⟨"InvoiceSmith$Reader", "readTerm", "(IZ)Z"⟩ ⟨"InvoiceSmith$Reader", "readTerm", "(IZ)Z"⟩ ∈ TB := TB_mem 9 (by decide +kernel) (by decide +kernel)
set_option maxRecDepth 20000 in
theorem tb10 : Cond.selects "InvoiceSmith$Reader" ⟨"InvoiceSmith$Reader", "skip", "(C)Z"⟩ ⟨"InvoiceSmith$Reader", "skip", "(C)Z"⟩ ∈ TB := TB_mem 10 (by decide +kernel) (by decide +kernel)
set_option maxRecDepth 20000 in
theorem tb11 : Cond.selects "InvoiceSmith$Form" ⟨"InvoiceSmith$Form", "aimHere", "(I)V"⟩ ⟨"InvoiceSmith$Form", "aimHere", "(I)V"⟩ ∈ TB := TB_mem 11 (by decide +kernel) (by decide +kernel)
set_option maxRecDepth 20000 in
theorem tb12 : Cond.selects "InvoiceSmith$Reader" ⟨"InvoiceSmith$Reader", "readField", "(Z)Z"⟩ ⟨"InvoiceSmith$Reader", "readField", "(Z)Z"⟩ ∈ TB := TB_mem 12 (by decide +kernel) (by decide +kernel)
set_option maxRecDepth 20000 in
theorem tb13 : Cond.selects "InvoiceSmith$Reader" ⟨"InvoiceSmith$Reader", "handOver", "(LInvoiceSmith$Form;)LInvoiceSmith$Form;"⟩ ⟨"InvoiceSmith$Reader", "handOver", "(LInvoiceSmith$Form;)LInvoiceSmith$Form;"⟩ ∈ TB := TB_mem 13 (by decide +kernel) (by decide +kernel)
set_option maxRecDepth 20000 in
theorem tb14 : Cond.selects "InvoiceSmith$Rates" ⟨"InvoiceSmith$Rates", "tell", "(IIII)I"⟩ ⟨"InvoiceSmith$Rates", "tell", "(IIII)I"⟩ ∈ TB := TB_mem 14 (by decide +kernel) (by decide +kernel)
set_option maxRecDepth 20000 in
theorem tb15 : Cond.selects "InvoiceSmith$Rates" ⟨"InvoiceSmith$Rates", "known", "(III)I"⟩ ⟨"InvoiceSmith$Rates", "known", "(III)I"⟩ ∈ TB := TB_mem 15 (by decide +kernel) (by decide +kernel)
set_option maxRecDepth 20000 in
theorem tb16 : Cond.selects "InvoiceSmith$Bill" ⟨"InvoiceSmith$Bill", "addLine", "(III)V"⟩ ⟨"InvoiceSmith$Bill", "addLine", "(III)V"⟩ ∈ TB := TB_mem 16 (by decide +kernel) (by decide +kernel)
set_option maxRecDepth 20000 in
theorem tb17 : Cond.selects "InvoiceSmith$Rates" ⟨"InvoiceSmith$Rates", "fillTellings", "(II[I)V"⟩ ⟨"InvoiceSmith$Rates", "fillTellings", "(II[I)V"⟩ ∈ TB := TB_mem 17 (by decide +kernel) (by decide +kernel)
set_option maxRecDepth 20000 in
theorem tb18 : Cond.selects "InvoiceSmith$Rates" ⟨"InvoiceSmith$Rates", "fillHundredths", "(II[I)V"⟩ ⟨"InvoiceSmith$Rates", "fillHundredths", "(II[I)V"⟩ ∈ TB := TB_mem 18 (by decide +kernel) (by decide +kernel)
set_option maxRecDepth 20000 in
theorem tb19 : Cond.selects "InvoiceSmith$Bill" ⟨"InvoiceSmith$Bill", "taxBy", "([I)I"⟩ ⟨"InvoiceSmith$Bill", "taxBy", "([I)I"⟩ ∈ TB := TB_mem 19 (by decide +kernel) (by decide +kernel)
set_option maxRecDepth 20000 in
theorem tb20 : Cond.selects "InvoiceSmith$Bill" ⟨"InvoiceSmith$Bill", "taxByLine", "([I)I"⟩ ⟨"InvoiceSmith$Bill", "taxByLine", "([I)I"⟩ ∈ TB := TB_mem 20 (by decide +kernel) (by decide +kernel)
set_option maxRecDepth 20000 in
theorem tb21 : Cond.selects "InvoiceSmith$Bill" ⟨"InvoiceSmith$Bill", "timesRate", "(I[I)I"⟩ ⟨"InvoiceSmith$Bill", "timesRate", "(I[I)I"⟩ ∈ TB := TB_mem 21 (by decide +kernel) (by decide +kernel)
set_option maxRecDepth 20000 in
theorem tb22 : Cond.selects "InvoiceSmith$Bill" ⟨"InvoiceSmith$Bill", "amountOf", "(I)I"⟩ ⟨"InvoiceSmith$Bill", "amountOf", "(I)I"⟩ ∈ TB := TB_mem 22 (by decide +kernel) (by decide +kernel)
set_option maxRecDepth 20000 in
theorem tb23 : Cond.selects "InvoiceSmith$Bill" ⟨"InvoiceSmith$Bill", "taxByKind", "([I)I"⟩ ⟨"InvoiceSmith$Bill", "taxByKind", "([I)I"⟩ ∈ TB := TB_mem 23 (by decide +kernel) (by decide +kernel)
set_option maxRecDepth 20000 in
theorem tb24 : Cond.selects "InvoiceSmith$Bill" ⟨"InvoiceSmith$Bill", "taxByAll", "([I)I"⟩ ⟨"InvoiceSmith$Bill", "taxByAll", "([I)I"⟩ ∈ TB := TB_mem 24 (by decide +kernel) (by decide +kernel)
set_option maxRecDepth 20000 in
theorem tb25 : Cond.selects "InvoiceSmith" ⟨"InvoiceSmith", "findBill", "(I)LInvoiceSmith$Bill;"⟩ ⟨"InvoiceSmith", "findBill", "(I)LInvoiceSmith$Bill;"⟩ ∈ TB := TB_mem 25 (by decide +kernel) (by decide +kernel)
set_option maxRecDepth 20000 in
theorem tb26 : Cond.selects "InvoiceSmith$Bill" ⟨"InvoiceSmith$Bill", "sumOfAmounts", "()I"⟩ ⟨"InvoiceSmith$Bill", "sumOfAmounts", "()I"⟩ ∈ TB := TB_mem 26 (by decide +kernel) (by decide +kernel)
set_option maxRecDepth 20000 in
theorem tb27 : Cond.selects "InvoiceSmith$Bill" ⟨"InvoiceSmith$Bill", "taxWithNotes", "()I"⟩ ⟨"InvoiceSmith$Bill", "taxWithNotes", "()I"⟩ ∈ TB := TB_mem 27 (by decide +kernel) (by decide +kernel)
set_option maxRecDepth 20000 in
theorem tb28 : Cond.selects "InvoiceSmith" ⟨"InvoiceSmith", "taxKnownNow", "(LInvoiceSmith$Bill;)I"⟩ ⟨"InvoiceSmith", "taxKnownNow", "(LInvoiceSmith$Bill;)I"⟩ ∈ TB := TB_mem 28 (by decide +kernel) (by decide +kernel)
set_option maxRecDepth 20000 in
theorem tb29 : Cond.selects "InvoiceSmith$Bill" ⟨"InvoiceSmith$Bill", "hasLine", "(I)Z"⟩ ⟨"InvoiceSmith$Bill", "hasLine", "(I)Z"⟩ ∈ TB := TB_mem 29 (by decide +kernel) (by decide +kernel)
set_option maxRecDepth 20000 in
theorem tb30 : Cond.selects "InvoiceSmith" ⟨"InvoiceSmith", "findForm", "(I)LInvoiceSmith$Form;"⟩ ⟨"InvoiceSmith", "findForm", "(I)LInvoiceSmith$Form;"⟩ ∈ TB := TB_mem 30 (by decide +kernel) (by decide +kernel)
set_option maxRecDepth 20000 in
theorem tb31 : Cond.selects "InvoiceSmith$Writer" ⟨"InvoiceSmith$Writer", "write", "(LInvoiceSmith$Bill;LInvoiceSmith$Form;I)V"⟩ ⟨"InvoiceSmith$Writer", "write", "(LInvoiceSmith$Bill;LInvoiceSmith$Form;I)V"⟩ ∈ TB := TB_mem 31 (by decide +kernel) (by decide +kernel)
set_option maxRecDepth 20000 in
theorem tb32 : Cond.selects "InvoiceSmith$Writer" ⟨"InvoiceSmith$Writer", "step", "(LInvoiceSmith$Bill;LInvoiceSmith$Form;I)I"⟩ ⟨"InvoiceSmith$Writer", "step", "(LInvoiceSmith$Bill;LInvoiceSmith$Form;I)I"⟩ ∈ TB := TB_mem 32 (by decide +kernel) (by decide +kernel)
set_option maxRecDepth 20000 in
theorem tb33 : Cond.selects "InvoiceSmith$Writer" ⟨"InvoiceSmith$Writer", "put", "(C)V"⟩ ⟨"InvoiceSmith$Writer", "put", "(C)V"⟩ ∈ TB := TB_mem 33 (by decide +kernel) (by decide +kernel)
set_option maxRecDepth 20000 in
theorem tb34 : Cond.selects "InvoiceSmith$Bill" ⟨"InvoiceSmith$Bill", "numberNamed", "(CI)I"⟩ ⟨"InvoiceSmith$Bill", "numberNamed", "(CI)I"⟩ ∈ TB := TB_mem 34 (by decide +kernel) (by decide +kernel)
set_option maxRecDepth 20000 in
theorem tb35 : Cond.selects "InvoiceSmith$Writer" ⟨"InvoiceSmith$Writer", "putNumber", "(II)V"⟩ ⟨"InvoiceSmith$Writer", "putNumber", "(II)V"⟩ ∈ TB := TB_mem 35 (by decide +kernel) (by decide +kernel)
set_option maxRecDepth 20000 in
theorem tb36 : Cond.selects "InvoiceSmith$Writer" ⟨"InvoiceSmith$Writer", "compareSums", "(C)Z"⟩ ⟨"InvoiceSmith$Writer", "compareSums", "(C)Z"⟩ ∈ TB := TB_mem 36 (by decide +kernel) (by decide +kernel)
set_option maxRecDepth 20000 in
theorem tb37 : Cond.selects "InvoiceSmith$Writer" ⟨"InvoiceSmith$Writer", "nextLine", "(LInvoiceSmith$Bill;)Z"⟩ ⟨"InvoiceSmith$Writer", "nextLine", "(LInvoiceSmith$Bill;)Z"⟩ ∈ TB := TB_mem 37 (by decide +kernel) (by decide +kernel)
set_option maxRecDepth 20000 in
theorem tb38 : Cond.selects "InvoiceSmith" ⟨"InvoiceSmith", "makeGood", "(LInvoiceSmith$Bill;)V"⟩ ⟨"InvoiceSmith", "makeGood", "(LInvoiceSmith$Bill;)V"⟩ ∈ TB := TB_mem 38 (by decide +kernel) (by decide +kernel)
set_option maxRecDepth 20000 in
theorem tb39 : Cond.selects "InvoiceSmith$Ledger" ⟨"InvoiceSmith$Ledger", "enter", "(III)V"⟩ ⟨"InvoiceSmith$Ledger", "enter", "(III)V"⟩ ∈ TB := TB_mem 39 (by decide +kernel) (by decide +kernel)
set_option maxRecDepth 20000 in
theorem tb40 : Cond.selects "InvoiceSmith$Page" ⟨"InvoiceSmith$Page", "append", "(JI)V"⟩ ⟨"InvoiceSmith$Page", "append", "(JI)V"⟩ ∈ TB := TB_mem 40 (by decide +kernel) (by decide +kernel)
set_option maxRecDepth 20000 in
theorem tb41 : (Jvm.Cond.initialized "InvoiceSmithLaw") ∈ TB := TB_mem 41 (by decide +kernel) (by decide +kernel)
set_option maxRecDepth 20000 in
theorem tb42 : (Jvm.Cond.initialized "InvoiceSmith") ∈ TB := TB_mem 42 (by decide +kernel) (by decide +kernel)
set_option maxRecDepth 20000 in
theorem tb43 : (Jvm.Cond.initialized "InvoiceSmith$Reader") ∈ TB := TB_mem 43 (by decide +kernel) (by decide +kernel)
set_option maxRecDepth 20000 in
theorem tb44 : (Jvm.Cond.initialized "InvoiceSmith$Page") ∈ TB := TB_mem 44 (by decide +kernel) (by decide +kernel)
set_option maxRecDepth 20000 in
theorem tb45 : (Jvm.Cond.initialized "InvoiceSmith$Form") ∈ TB := TB_mem 45 (by decide +kernel) (by decide +kernel)
set_option maxRecDepth 20000 in
theorem tb46 : (Jvm.Cond.initialized "InvoiceSmith$Writer") ∈ TB := TB_mem 46 (by decide +kernel) (by decide +kernel)
set_option maxRecDepth 20000 in
theorem tb47 : (Jvm.Cond.initialized "InvoiceSmith$Rates") ∈ TB := TB_mem 47 (by decide +kernel) (by decide +kernel)
set_option maxRecDepth 20000 in
theorem tb48 : (Jvm.Cond.initialized "InvoiceSmith$Bill") ∈ TB := TB_mem 48 (by decide +kernel) (by decide +kernel)
set_option maxRecDepth 20000 in
theorem tb49 : (Jvm.Cond.initialized "InvoiceSmith$Ledger") ∈ TB := TB_mem 49 (by decide +kernel) (by decide +kernel)
set_option maxRecDepth 20000 in
theorem tb50 : (Jvm.Cond.initialized "java/lang/Throwable") ∈ TB := TB_mem 50 (by decide +kernel) (by decide +kernel)
set_option maxRecDepth 20000 in
theorem tb51 : (Jvm.Cond.initialized "java/lang/Exception") ∈ TB := TB_mem 51 (by decide +kernel) (by decide +kernel)
set_option maxRecDepth 20000 in
theorem tb52 : (Jvm.Cond.initialized "java/lang/RuntimeException") ∈ TB := TB_mem 52 (by decide +kernel) (by decide +kernel)
set_option maxRecDepth 20000 in
theorem tb53 : (Jvm.Cond.initialized "java/lang/IllegalArgumentException") ∈ TB := TB_mem 53 (by decide +kernel) (by decide +kernel)
set_option maxRecDepth 20000 in
theorem tb54 : (Jvm.Cond.initialized "java/lang/IllegalStateException") ∈ TB := TB_mem 54 (by decide +kernel) (by decide +kernel)
set_option maxRecDepth 20000 in
theorem tb55 : (Jvm.Cond.initialized "java/lang/IndexOutOfBoundsException") ∈ TB := TB_mem 55 (by decide +kernel) (by decide +kernel)
set_option maxRecDepth 20000 in
theorem tb56 : (Jvm.Cond.initialized "java/lang/String") ∈ TB := TB_mem 56 (by decide +kernel) (by decide +kernel)
set_option maxRecDepth 20000 in
theorem tb57 : (Jvm.Cond.initialized "java/lang/StringLatin1") ∈ TB := TB_mem 57 (by decide +kernel) (by decide +kernel)
set_option maxRecDepth 20000 in
theorem tb58 : (Jvm.Cond.initialized "java/lang/Math") ∈ TB := TB_mem 58 (by decide +kernel) (by decide +kernel)
set_option maxRecDepth 20000 in
theorem tb59 : (Jvm.Cond.initialized "java/lang/StringUTF16") ∈ TB := TB_mem 59 (by decide +kernel) (by decide +kernel)
set_option maxRecDepth 20000 in
theorem tb60 : (Jvm.Cond.initialized "jdk/internal/util/Preconditions") ∈ TB := TB_mem 60 (by decide +kernel) (by decide +kernel)
set_option maxRecDepth 20000 in
theorem tb61 : (Jvm.Cond.initialized "java/lang/Character") ∈ TB := TB_mem 61 (by decide +kernel) (by decide +kernel)
set_option maxRecDepth 20000 in
theorem tb62 : (Jvm.Cond.classLink "InvoiceSmithLaw" (21 : Nat) "InvoiceSmith") ∈ TB := TB_mem 62 (by decide +kernel) (by decide +kernel)
set_option maxRecDepth 20000 in
theorem tb63 : (Jvm.Cond.instantiable "InvoiceSmith" (13 : Nat)) ∈ TB := TB_mem 63 (by decide +kernel) (by decide +kernel)
set_option maxRecDepth 20000 in
theorem tb64 : (Jvm.Cond.methodLink "InvoiceSmithLaw" (32 : Nat) ({ cls := "InvoiceSmith", name := "<init>", desc := "()V" } : Jvm.MethodName)) ∈ TB := TB_mem 64 (by decide +kernel) (by decide +kernel)
set_option maxRecDepth 20000 in
theorem tb65 : (Jvm.Cond.instanceMethod ({ cls := "InvoiceSmith", name := "<init>", desc := "()V" } : Jvm.MethodName)) ∈ TB := TB_mem 65 (by decide +kernel) (by decide +kernel)
set_option maxRecDepth 20000 in
theorem tb66 : (Jvm.Cond.code ({ cls := "InvoiceSmith", name := "<init>", desc := "()V" } : Jvm.MethodName) prog_1_method_1_code (1 : Nat) (Option.none : Option Jvm.ClassFile.FieldType)) ∈ TB := TB_mem 66 (by decide +kernel) (by decide +kernel)
set_option maxRecDepth 20000 in
theorem tb67 : (Jvm.Cond.methodLink "InvoiceSmith" (1 : Nat) ({ cls := "java/lang/Object", name := "<init>", desc := "()V" } : Jvm.MethodName)) ∈ TB := TB_mem 67 (by decide +kernel) (by decide +kernel)
set_option maxRecDepth 20000 in
theorem tb68 : (Jvm.Cond.instanceMethod ({ cls := "java/lang/Object", name := "<init>", desc := "()V" } : Jvm.MethodName)) ∈ TB := TB_mem 68 (by decide +kernel) (by decide +kernel)
set_option maxRecDepth 20000 in
theorem tb69 : (Jvm.Cond.code ({ cls := "java/lang/Object", name := "<init>", desc := "()V" } : Jvm.MethodName) object_method_1_code (1 : Nat) (Option.none : Option Jvm.ClassFile.FieldType)) ∈ TB := TB_mem 69 (by decide +kernel) (by decide +kernel)
set_option maxRecDepth 20000 in
theorem tb70 : (Jvm.Cond.classLink "InvoiceSmith" (7 : Nat) "InvoiceSmith$Reader") ∈ TB := TB_mem 70 (by decide +kernel) (by decide +kernel)
set_option maxRecDepth 20000 in
theorem tb71 : (Jvm.Cond.instantiable "InvoiceSmith$Reader" (4 : Nat)) ∈ TB := TB_mem 71 (by decide +kernel) (by decide +kernel)
set_option maxRecDepth 20000 in
theorem tn72 : (Jvm.Cond.methodLinkNest "InvoiceSmith" (9 : Nat) ({ cls := "InvoiceSmith$Reader", name := "<init>", desc := "()V" } : Jvm.MethodName) "InvoiceSmith") ∈ TN := TN_mem 72 (by decide +kernel) (by decide +kernel)
set_option maxRecDepth 20000 in
theorem tb73 : (Jvm.Cond.instanceMethod ({ cls := "InvoiceSmith$Reader", name := "<init>", desc := "()V" } : Jvm.MethodName)) ∈ TB := TB_mem 73 (by decide +kernel) (by decide +kernel)
set_option maxRecDepth 20000 in
theorem tb74 : (Jvm.Cond.code ({ cls := "InvoiceSmith$Reader", name := "<init>", desc := "()V" } : Jvm.MethodName) prog_7_method_1_code (1 : Nat) (Option.none : Option Jvm.ClassFile.FieldType)) ∈ TB := TB_mem 74 (by decide +kernel) (by decide +kernel)
set_option maxRecDepth 20000 in
theorem tb75 : (Jvm.Cond.methodLink "InvoiceSmith$Reader" (3 : Nat) ({ cls := "java/lang/Object", name := "<init>", desc := "()V" } : Jvm.MethodName)) ∈ TB := TB_mem 75 (by decide +kernel) (by decide +kernel)
set_option maxRecDepth 20000 in
theorem tb76 : (Jvm.Cond.classLink "InvoiceSmith$Reader" (9 : Nat) "InvoiceSmith$Page") ∈ TB := TB_mem 76 (by decide +kernel) (by decide +kernel)
set_option maxRecDepth 20000 in
theorem tb77 : (Jvm.Cond.instantiable "InvoiceSmith$Page" (2 : Nat)) ∈ TB := TB_mem 77 (by decide +kernel) (by decide +kernel)
set_option maxRecDepth 20000 in
theorem tn78 : (Jvm.Cond.methodLinkNest "InvoiceSmith$Reader" (11 : Nat) ({ cls := "InvoiceSmith$Page", name := "<init>", desc := "()V" } : Jvm.MethodName) "InvoiceSmith") ∈ TN := TN_mem 78 (by decide +kernel) (by decide +kernel)
set_option maxRecDepth 20000 in
theorem tb79 : (Jvm.Cond.instanceMethod ({ cls := "InvoiceSmith$Page", name := "<init>", desc := "()V" } : Jvm.MethodName)) ∈ TB := TB_mem 79 (by decide +kernel) (by decide +kernel)
set_option maxRecDepth 20000 in
theorem tb80 : (Jvm.Cond.code ({ cls := "InvoiceSmith$Page", name := "<init>", desc := "()V" } : Jvm.MethodName) prog_5_method_1_code (1 : Nat) (Option.none : Option Jvm.ClassFile.FieldType)) ∈ TB := TB_mem 80 (by decide +kernel) (by decide +kernel)
set_option maxRecDepth 20000 in
theorem tb81 : (Jvm.Cond.methodLink "InvoiceSmith$Page" (3 : Nat) ({ cls := "java/lang/Object", name := "<init>", desc := "()V" } : Jvm.MethodName)) ∈ TB := TB_mem 81 (by decide +kernel) (by decide +kernel)
set_option maxRecDepth 20000 in
theorem tb82 : (Jvm.Cond.fieldLink "InvoiceSmith$Page" (9 : Nat) "InvoiceSmith$Page" "signs" "[I") ∈ TB := TB_mem 82 (by decide +kernel) (by decide +kernel)
set_option maxRecDepth 20000 in
theorem tn83 : (Jvm.Cond.fieldLinkNest "InvoiceSmith" (81 : Nat) "InvoiceSmith$Page" "size" "I" "InvoiceSmith") ∈ TN := TN_mem 83 (by decide +kernel) (by decide +kernel)
set_option maxRecDepth 20000 in
theorem tn84 : (Jvm.Cond.fieldLinkNest "InvoiceSmith$Reader" (39 : Nat) "InvoiceSmith$Page" "size" "I" "InvoiceSmith") ∈ TN := TN_mem 84 (by decide +kernel) (by decide +kernel)
set_option maxRecDepth 20000 in
theorem tb85 : (Jvm.Cond.fieldLink "InvoiceSmith$Page" (17 : Nat) "InvoiceSmith$Page" "size" "I") ∈ TB := TB_mem 85 (by decide +kernel) (by decide +kernel)
set_option maxRecDepth 20000 in
theorem tb90 : (Jvm.Cond.superclass "InvoiceSmith$Page" "java/lang/Object") ∈ TB := TB_mem 90 (by decide +kernel) (by decide +kernel)
set_option maxRecDepth 20000 in
theorem tb91 : (Jvm.Cond.arrayClass Jvm.ClassFile.FieldType.int) ∈ TB := TB_mem 91 (by decide +kernel) (by decide +kernel)
set_option maxRecDepth 20000 in
theorem tb92 : (Jvm.Cond.classLink "InvoiceSmith$Reader" (18 : Nat) "InvoiceSmith$Form") ∈ TB := TB_mem 92 (by decide +kernel) (by decide +kernel)
set_option maxRecDepth 20000 in
theorem tb93 : (Jvm.Cond.instantiable "InvoiceSmith$Form" (4 : Nat)) ∈ TB := TB_mem 93 (by decide +kernel) (by decide +kernel)
set_option maxRecDepth 20000 in
theorem tn94 : (Jvm.Cond.methodLinkNest "InvoiceSmith$Reader" (20 : Nat) ({ cls := "InvoiceSmith$Form", name := "<init>", desc := "()V" } : Jvm.MethodName) "InvoiceSmith") ∈ TN := TN_mem 94 (by decide +kernel) (by decide +kernel)
set_option maxRecDepth 20000 in
theorem tb95 : (Jvm.Cond.instanceMethod ({ cls := "InvoiceSmith$Form", name := "<init>", desc := "()V" } : Jvm.MethodName)) ∈ TB := TB_mem 95 (by decide +kernel) (by decide +kernel)
set_option maxRecDepth 20000 in
theorem tb96 : (Jvm.Cond.code ({ cls := "InvoiceSmith$Form", name := "<init>", desc := "()V" } : Jvm.MethodName) prog_3_method_1_code (1 : Nat) (Option.none : Option Jvm.ClassFile.FieldType)) ∈ TB := TB_mem 96 (by decide +kernel) (by decide +kernel)
set_option maxRecDepth 20000 in
theorem tb97 : (Jvm.Cond.methodLink "InvoiceSmith$Form" (3 : Nat) ({ cls := "java/lang/Object", name := "<init>", desc := "()V" } : Jvm.MethodName)) ∈ TB := TB_mem 97 (by decide +kernel) (by decide +kernel)
set_option maxRecDepth 20000 in
theorem tb98 : (Jvm.Cond.fieldLink "InvoiceSmith$Form" (9 : Nat) "InvoiceSmith$Form" "deeds" "[I") ∈ TB := TB_mem 98 (by decide +kernel) (by decide +kernel)
set_option maxRecDepth 20000 in
theorem tn99 : (Jvm.Cond.fieldLinkNest "InvoiceSmith$Writer" (56 : Nat) "InvoiceSmith$Form" "deeds" "[I" "InvoiceSmith") ∈ TN := TN_mem 99 (by decide +kernel) (by decide +kernel)
set_option maxRecDepth 20000 in
theorem tb100 : (Jvm.Cond.fieldLink "InvoiceSmith$Form" (15 : Nat) "InvoiceSmith$Form" "firsts" "[I") ∈ TB := TB_mem 100 (by decide +kernel) (by decide +kernel)
set_option maxRecDepth 20000 in
theorem tn101 : (Jvm.Cond.fieldLinkNest "InvoiceSmith$Writer" (46 : Nat) "InvoiceSmith$Form" "firsts" "[I" "InvoiceSmith") ∈ TN := TN_mem 101 (by decide +kernel) (by decide +kernel)
set_option maxRecDepth 20000 in
theorem tb102 : (Jvm.Cond.fieldLink "InvoiceSmith$Form" (18 : Nat) "InvoiceSmith$Form" "seconds" "[I") ∈ TB := TB_mem 102 (by decide +kernel) (by decide +kernel)
set_option maxRecDepth 20000 in
theorem tn103 : (Jvm.Cond.fieldLinkNest "InvoiceSmith$Writer" (53 : Nat) "InvoiceSmith$Form" "seconds" "[I" "InvoiceSmith") ∈ TN := TN_mem 103 (by decide +kernel) (by decide +kernel)
set_option maxRecDepth 20000 in
theorem tb104 : (Jvm.Cond.fieldLink "InvoiceSmith$Form" (21 : Nat) "InvoiceSmith$Form" "size" "I") ∈ TB := TB_mem 104 (by decide +kernel) (by decide +kernel)
set_option maxRecDepth 20000 in
theorem tn105 : (Jvm.Cond.fieldLinkNest "InvoiceSmith$Reader" (25 : Nat) "InvoiceSmith$Form" "size" "I" "InvoiceSmith") ∈ TN := TN_mem 105 (by decide +kernel) (by decide +kernel)
set_option maxRecDepth 20000 in
theorem tn106 : (Jvm.Cond.fieldLinkNest "InvoiceSmith$Writer" (37 : Nat) "InvoiceSmith$Form" "size" "I" "InvoiceSmith") ∈ TN := TN_mem 106 (by decide +kernel) (by decide +kernel)
set_option maxRecDepth 20000 in
theorem tb115 : (Jvm.Cond.superclass "InvoiceSmith$Form" "java/lang/Object") ∈ TB := TB_mem 115 (by decide +kernel) (by decide +kernel)
set_option maxRecDepth 20000 in
theorem tb116 : (Jvm.Cond.fieldLink "InvoiceSmith$Reader" (12 : Nat) "InvoiceSmith$Reader" "page" "LInvoiceSmith$Page;") ∈ TB := TB_mem 116 (by decide +kernel) (by decide +kernel)
set_option maxRecDepth 20000 in
theorem tn117 : (Jvm.Cond.fieldLinkNest "InvoiceSmith" (64 : Nat) "InvoiceSmith$Reader" "page" "LInvoiceSmith$Page;" "InvoiceSmith") ∈ TN := TN_mem 117 (by decide +kernel) (by decide +kernel)
set_option maxRecDepth 20000 in
theorem tb118 : (Jvm.Cond.fieldLink "InvoiceSmith$Reader" (21 : Nat) "InvoiceSmith$Reader" "form" "LInvoiceSmith$Form;") ∈ TB := TB_mem 118 (by decide +kernel) (by decide +kernel)
set_option maxRecDepth 20000 in
theorem tb119 : (Jvm.Cond.fieldLink "InvoiceSmith$Reader" (29 : Nat) "InvoiceSmith$Reader" "at" "I") ∈ TB := TB_mem 119 (by decide +kernel) (by decide +kernel)
set_option maxRecDepth 20000 in
theorem tb120 : (Jvm.Cond.fieldLink "InvoiceSmith$Reader" (32 : Nat) "InvoiceSmith$Reader" "parts" "I") ∈ TB := TB_mem 120 (by decide +kernel) (by decide +kernel)
set_option maxRecDepth 20000 in
theorem tb129 : (Jvm.Cond.superclass "InvoiceSmith$Reader" "java/lang/Object") ∈ TB := TB_mem 129 (by decide +kernel) (by decide +kernel)
set_option maxRecDepth 20000 in
theorem tb130 : (Jvm.Cond.classLink "InvoiceSmith" (16 : Nat) "InvoiceSmith$Writer") ∈ TB := TB_mem 130 (by decide +kernel) (by decide +kernel)
set_option maxRecDepth 20000 in
theorem tb131 : (Jvm.Cond.instantiable "InvoiceSmith$Writer" (7 : Nat)) ∈ TB := TB_mem 131 (by decide +kernel) (by decide +kernel)
set_option maxRecDepth 20000 in
theorem tn132 : (Jvm.Cond.methodLinkNest "InvoiceSmith" (18 : Nat) ({ cls := "InvoiceSmith$Writer", name := "<init>", desc := "()V" } : Jvm.MethodName) "InvoiceSmith") ∈ TN := TN_mem 132 (by decide +kernel) (by decide +kernel)
set_option maxRecDepth 20000 in
theorem tb133 : (Jvm.Cond.instanceMethod ({ cls := "InvoiceSmith$Writer", name := "<init>", desc := "()V" } : Jvm.MethodName)) ∈ TB := TB_mem 133 (by decide +kernel) (by decide +kernel)
set_option maxRecDepth 20000 in
theorem tb134 : (Jvm.Cond.code ({ cls := "InvoiceSmith$Writer", name := "<init>", desc := "()V" } : Jvm.MethodName) prog_8_method_1_code (1 : Nat) (Option.none : Option Jvm.ClassFile.FieldType)) ∈ TB := TB_mem 134 (by decide +kernel) (by decide +kernel)
set_option maxRecDepth 20000 in
theorem tb135 : (Jvm.Cond.methodLink "InvoiceSmith$Writer" (3 : Nat) ({ cls := "java/lang/Object", name := "<init>", desc := "()V" } : Jvm.MethodName)) ∈ TB := TB_mem 135 (by decide +kernel) (by decide +kernel)
set_option maxRecDepth 20000 in
theorem tb136 : (Jvm.Cond.fieldLink "InvoiceSmith$Writer" (11 : Nat) "InvoiceSmith$Writer" "digits" "[I") ∈ TB := TB_mem 136 (by decide +kernel) (by decide +kernel)
set_option maxRecDepth 20000 in
theorem tb137 : (Jvm.Cond.fieldLink "InvoiceSmith$Writer" (15 : Nat) "InvoiceSmith$Writer" "count" "I") ∈ TB := TB_mem 137 (by decide +kernel) (by decide +kernel)
set_option maxRecDepth 20000 in
theorem tn138 : (Jvm.Cond.fieldLinkNest "InvoiceSmith" (248 : Nat) "InvoiceSmith$Writer" "count" "I" "InvoiceSmith") ∈ TN := TN_mem 138 (by decide +kernel) (by decide +kernel)
set_option maxRecDepth 20000 in
theorem tb139 : (Jvm.Cond.fieldLink "InvoiceSmith$Writer" (19 : Nat) "InvoiceSmith$Writer" "wanted" "I") ∈ TB := TB_mem 139 (by decide +kernel) (by decide +kernel)
set_option maxRecDepth 20000 in
theorem tb140 : (Jvm.Cond.fieldLink "InvoiceSmith$Writer" (22 : Nat) "InvoiceSmith$Writer" "kept" "C") ∈ TB := TB_mem 140 (by decide +kernel) (by decide +kernel)
set_option maxRecDepth 20000 in
theorem tn141 : (Jvm.Cond.fieldLinkNest "InvoiceSmith" (244 : Nat) "InvoiceSmith$Writer" "kept" "C" "InvoiceSmith") ∈ TN := TN_mem 141 (by decide +kernel) (by decide +kernel)
set_option maxRecDepth 20000 in
theorem tb142 : (Jvm.Cond.fieldLink "InvoiceSmith$Writer" (26 : Nat) "InvoiceSmith$Writer" "line" "I") ∈ TB := TB_mem 142 (by decide +kernel) (by decide +kernel)
set_option maxRecDepth 20000 in
theorem tb143 : (Jvm.Cond.fieldLink "InvoiceSmith$Writer" (29 : Nat) "InvoiceSmith$Writer" "left" "J") ∈ TB := TB_mem 143 (by decide +kernel) (by decide +kernel)
set_option maxRecDepth 20000 in
theorem tb144 : (Jvm.Cond.fieldLink "InvoiceSmith$Writer" (33 : Nat) "InvoiceSmith$Writer" "sum" "J") ∈ TB := TB_mem 144 (by decide +kernel) (by decide +kernel)
set_option maxRecDepth 20000 in
theorem tb159 : (Jvm.Cond.superclass "InvoiceSmith$Writer" "java/lang/Object") ∈ TB := TB_mem 159 (by decide +kernel) (by decide +kernel)
set_option maxRecDepth 20000 in
theorem tb160 : (Jvm.Cond.classLink "InvoiceSmith" (23 : Nat) "InvoiceSmith$Form") ∈ TB := TB_mem 160 (by decide +kernel) (by decide +kernel)
set_option maxRecDepth 20000 in
theorem tn161 : (Jvm.Cond.arrayOver (Jvm.ClassFile.FieldType.object "InvoiceSmith$Form")) ∈ TN := TN_mem 161 (by decide +kernel) (by decide +kernel)
set_option maxRecDepth 20000 in
theorem tb162 : (Jvm.Cond.classLink "InvoiceSmith" (29 : Nat) "InvoiceSmith$Rates") ∈ TB := TB_mem 162 (by decide +kernel) (by decide +kernel)
set_option maxRecDepth 20000 in
theorem tb163 : (Jvm.Cond.instantiable "InvoiceSmith$Rates" (5 : Nat)) ∈ TB := TB_mem 163 (by decide +kernel) (by decide +kernel)
set_option maxRecDepth 20000 in
theorem tn164 : (Jvm.Cond.methodLinkNest "InvoiceSmith" (31 : Nat) ({ cls := "InvoiceSmith$Rates", name := "<init>", desc := "()V" } : Jvm.MethodName) "InvoiceSmith") ∈ TN := TN_mem 164 (by decide +kernel) (by decide +kernel)
set_option maxRecDepth 20000 in
theorem tb165 : (Jvm.Cond.instanceMethod ({ cls := "InvoiceSmith$Rates", name := "<init>", desc := "()V" } : Jvm.MethodName)) ∈ TB := TB_mem 165 (by decide +kernel) (by decide +kernel)
set_option maxRecDepth 20000 in
theorem tb166 : (Jvm.Cond.code ({ cls := "InvoiceSmith$Rates", name := "<init>", desc := "()V" } : Jvm.MethodName) prog_6_method_1_code (1 : Nat) (Option.none : Option Jvm.ClassFile.FieldType)) ∈ TB := TB_mem 166 (by decide +kernel) (by decide +kernel)
set_option maxRecDepth 20000 in
theorem tb167 : (Jvm.Cond.methodLink "InvoiceSmith$Rates" (3 : Nat) ({ cls := "java/lang/Object", name := "<init>", desc := "()V" } : Jvm.MethodName)) ∈ TB := TB_mem 167 (by decide +kernel) (by decide +kernel)
set_option maxRecDepth 20000 in
theorem tb168 : (Jvm.Cond.fieldLink "InvoiceSmith$Rates" (9 : Nat) "InvoiceSmith$Rates" "places" "[I") ∈ TB := TB_mem 168 (by decide +kernel) (by decide +kernel)
set_option maxRecDepth 20000 in
theorem tb169 : (Jvm.Cond.fieldLink "InvoiceSmith$Rates" (15 : Nat) "InvoiceSmith$Rates" "kinds" "[I") ∈ TB := TB_mem 169 (by decide +kernel) (by decide +kernel)
set_option maxRecDepth 20000 in
theorem tb170 : (Jvm.Cond.fieldLink "InvoiceSmith$Rates" (18 : Nat) "InvoiceSmith$Rates" "hundredths" "[I") ∈ TB := TB_mem 170 (by decide +kernel) (by decide +kernel)
set_option maxRecDepth 20000 in
theorem tb171 : (Jvm.Cond.fieldLink "InvoiceSmith$Rates" (21 : Nat) "InvoiceSmith$Rates" "froms" "[I") ∈ TB := TB_mem 171 (by decide +kernel) (by decide +kernel)
set_option maxRecDepth 20000 in
theorem tb172 : (Jvm.Cond.fieldLink "InvoiceSmith$Rates" (24 : Nat) "InvoiceSmith$Rates" "count" "I") ∈ TB := TB_mem 172 (by decide +kernel) (by decide +kernel)
set_option maxRecDepth 20000 in
theorem tn173 : (Jvm.Cond.fieldLinkNest "InvoiceSmith" (127 : Nat) "InvoiceSmith$Rates" "count" "I" "InvoiceSmith") ∈ TN := TN_mem 173 (by decide +kernel) (by decide +kernel)
set_option maxRecDepth 20000 in
theorem tb184 : (Jvm.Cond.superclass "InvoiceSmith$Rates" "java/lang/Object") ∈ TB := TB_mem 184 (by decide +kernel) (by decide +kernel)
set_option maxRecDepth 20000 in
theorem tb185 : (Jvm.Cond.classLink "InvoiceSmith" (43 : Nat) "InvoiceSmith$Bill") ∈ TB := TB_mem 185 (by decide +kernel) (by decide +kernel)
set_option maxRecDepth 20000 in
theorem tb186 : (Jvm.Cond.instantiable "InvoiceSmith$Bill" (13 : Nat)) ∈ TB := TB_mem 186 (by decide +kernel) (by decide +kernel)
set_option maxRecDepth 20000 in
theorem tn187 : (Jvm.Cond.methodLinkNest "InvoiceSmith" (45 : Nat) ({ cls := "InvoiceSmith$Bill", name := "<init>", desc := "()V" } : Jvm.MethodName) "InvoiceSmith") ∈ TN := TN_mem 187 (by decide +kernel) (by decide +kernel)
set_option maxRecDepth 20000 in
theorem tb188 : (Jvm.Cond.instanceMethod ({ cls := "InvoiceSmith$Bill", name := "<init>", desc := "()V" } : Jvm.MethodName)) ∈ TB := TB_mem 188 (by decide +kernel) (by decide +kernel)
set_option maxRecDepth 20000 in
theorem tb189 : (Jvm.Cond.code ({ cls := "InvoiceSmith$Bill", name := "<init>", desc := "()V" } : Jvm.MethodName) prog_2_method_1_code (1 : Nat) (Option.none : Option Jvm.ClassFile.FieldType)) ∈ TB := TB_mem 189 (by decide +kernel) (by decide +kernel)
set_option maxRecDepth 20000 in
theorem tb190 : (Jvm.Cond.methodLink "InvoiceSmith$Bill" (3 : Nat) ({ cls := "java/lang/Object", name := "<init>", desc := "()V" } : Jvm.MethodName)) ∈ TB := TB_mem 190 (by decide +kernel) (by decide +kernel)
set_option maxRecDepth 20000 in
theorem tb191 : (Jvm.Cond.fieldLink "InvoiceSmith$Bill" (9 : Nat) "InvoiceSmith$Bill" "kinds" "[I") ∈ TB := TB_mem 191 (by decide +kernel) (by decide +kernel)
set_option maxRecDepth 20000 in
theorem tn192 : (Jvm.Cond.fieldLinkNest "InvoiceSmith" (231 : Nat) "InvoiceSmith$Bill" "kinds" "[I" "InvoiceSmith") ∈ TN := TN_mem 192 (by decide +kernel) (by decide +kernel)
set_option maxRecDepth 20000 in
theorem tb193 : (Jvm.Cond.fieldLink "InvoiceSmith$Bill" (15 : Nat) "InvoiceSmith$Bill" "quantities" "[I") ∈ TB := TB_mem 193 (by decide +kernel) (by decide +kernel)
set_option maxRecDepth 20000 in
theorem tb194 : (Jvm.Cond.fieldLink "InvoiceSmith$Bill" (18 : Nat) "InvoiceSmith$Bill" "prices" "[I") ∈ TB := TB_mem 194 (by decide +kernel) (by decide +kernel)
set_option maxRecDepth 20000 in
theorem tb195 : (Jvm.Cond.fieldLink "InvoiceSmith$Bill" (27 : Nat) "InvoiceSmith$Bill" "lineCount" "I") ∈ TB := TB_mem 195 (by decide +kernel) (by decide +kernel)
set_option maxRecDepth 20000 in
theorem tn196 : (Jvm.Cond.fieldLinkNest "InvoiceSmith" (157 : Nat) "InvoiceSmith$Bill" "lineCount" "I" "InvoiceSmith") ∈ TN := TN_mem 196 (by decide +kernel) (by decide +kernel)
set_option maxRecDepth 20000 in
theorem tn197 : (Jvm.Cond.fieldLinkNest "InvoiceSmith" (180 : Nat) "InvoiceSmith$Bill" "number" "I" "InvoiceSmith") ∈ TN := TN_mem 197 (by decide +kernel) (by decide +kernel)
set_option maxRecDepth 20000 in
theorem tb198 : (Jvm.Cond.fieldLink "InvoiceSmith$Bill" (69 : Nat) "InvoiceSmith$Bill" "number" "I") ∈ TB := TB_mem 198 (by decide +kernel) (by decide +kernel)
set_option maxRecDepth 20000 in
theorem tn199 : (Jvm.Cond.fieldLinkNest "InvoiceSmith" (183 : Nat) "InvoiceSmith$Bill" "client" "I" "InvoiceSmith") ∈ TN := TN_mem 199 (by decide +kernel) (by decide +kernel)
set_option maxRecDepth 20000 in
theorem tb200 : (Jvm.Cond.fieldLink "InvoiceSmith$Bill" (72 : Nat) "InvoiceSmith$Bill" "client" "I") ∈ TB := TB_mem 200 (by decide +kernel) (by decide +kernel)
set_option maxRecDepth 20000 in
theorem tn201 : (Jvm.Cond.fieldLinkNest "InvoiceSmith" (186 : Nat) "InvoiceSmith$Bill" "day" "I" "InvoiceSmith") ∈ TN := TN_mem 201 (by decide +kernel) (by decide +kernel)
set_option maxRecDepth 20000 in
theorem tb202 : (Jvm.Cond.fieldLink "InvoiceSmith$Bill" (75 : Nat) "InvoiceSmith$Bill" "day" "I") ∈ TB := TB_mem 202 (by decide +kernel) (by decide +kernel)
set_option maxRecDepth 20000 in
theorem tn203 : (Jvm.Cond.fieldLinkNest "InvoiceSmith" (189 : Nat) "InvoiceSmith$Bill" "place" "I" "InvoiceSmith") ∈ TN := TN_mem 203 (by decide +kernel) (by decide +kernel)
set_option maxRecDepth 20000 in
theorem tb204 : (Jvm.Cond.fieldLink "InvoiceSmith$Bill" (49 : Nat) "InvoiceSmith$Bill" "way" "I") ∈ TB := TB_mem 204 (by decide +kernel) (by decide +kernel)
set_option maxRecDepth 20000 in
theorem tn205 : (Jvm.Cond.fieldLinkNest "InvoiceSmith" (192 : Nat) "InvoiceSmith$Bill" "way" "I" "InvoiceSmith") ∈ TN := TN_mem 205 (by decide +kernel) (by decide +kernel)
set_option maxRecDepth 20000 in
theorem tb206 : (Jvm.Cond.fieldLink "InvoiceSmith$Bill" (21 : Nat) "InvoiceSmith$Bill" "tellings" "[I") ∈ TB := TB_mem 206 (by decide +kernel) (by decide +kernel)
set_option maxRecDepth 20000 in
theorem tn207 : (Jvm.Cond.fieldLinkNest "InvoiceSmith" (195 : Nat) "InvoiceSmith$Bill" "tellings" "[I" "InvoiceSmith") ∈ TN := TN_mem 207 (by decide +kernel) (by decide +kernel)
set_option maxRecDepth 20000 in
theorem tb208 : (Jvm.Cond.fieldLink "InvoiceSmith$Bill" (24 : Nat) "InvoiceSmith$Bill" "hundredths" "[I") ∈ TB := TB_mem 208 (by decide +kernel) (by decide +kernel)
set_option maxRecDepth 20000 in
theorem tn209 : (Jvm.Cond.fieldLinkNest "InvoiceSmith" (202 : Nat) "InvoiceSmith$Bill" "hundredths" "[I" "InvoiceSmith") ∈ TN := TN_mem 209 (by decide +kernel) (by decide +kernel)
set_option maxRecDepth 20000 in
theorem tb210 : (Jvm.Cond.fieldLink "InvoiceSmith$Bill" (43 : Nat) "InvoiceSmith$Bill" "tax" "I") ∈ TB := TB_mem 210 (by decide +kernel) (by decide +kernel)
set_option maxRecDepth 20000 in
theorem tn211 : (Jvm.Cond.fieldLinkNest "InvoiceSmith" (212 : Nat) "InvoiceSmith$Bill" "tax" "I" "InvoiceSmith") ∈ TN := TN_mem 211 (by decide +kernel) (by decide +kernel)
set_option maxRecDepth 20000 in
theorem tb212 : (Jvm.Cond.fieldLink "InvoiceSmith$Bill" (46 : Nat) "InvoiceSmith$Bill" "noted" "I") ∈ TB := TB_mem 212 (by decide +kernel) (by decide +kernel)
set_option maxRecDepth 20000 in
theorem tn213 : (Jvm.Cond.fieldLinkNest "InvoiceSmith" (276 : Nat) "InvoiceSmith$Bill" "noted" "I" "InvoiceSmith") ∈ TN := TN_mem 213 (by decide +kernel) (by decide +kernel)
set_option maxRecDepth 20000 in
theorem tb240 : (Jvm.Cond.superclass "InvoiceSmith$Bill" "java/lang/Object") ∈ TB := TB_mem 240 (by decide +kernel) (by decide +kernel)
set_option maxRecDepth 20000 in
theorem tn241 : (Jvm.Cond.arrayOver (Jvm.ClassFile.FieldType.object "InvoiceSmith$Bill")) ∈ TN := TN_mem 241 (by decide +kernel) (by decide +kernel)
set_option maxRecDepth 20000 in
theorem tb242 : (Jvm.Cond.classLink "InvoiceSmith" (57 : Nat) "InvoiceSmith$Ledger") ∈ TB := TB_mem 242 (by decide +kernel) (by decide +kernel)
set_option maxRecDepth 20000 in
theorem tb243 : (Jvm.Cond.instantiable "InvoiceSmith$Ledger" (4 : Nat)) ∈ TB := TB_mem 243 (by decide +kernel) (by decide +kernel)
set_option maxRecDepth 20000 in
theorem tn244 : (Jvm.Cond.methodLinkNest "InvoiceSmith" (59 : Nat) ({ cls := "InvoiceSmith$Ledger", name := "<init>", desc := "()V" } : Jvm.MethodName) "InvoiceSmith") ∈ TN := TN_mem 244 (by decide +kernel) (by decide +kernel)
set_option maxRecDepth 20000 in
theorem tb245 : (Jvm.Cond.instanceMethod ({ cls := "InvoiceSmith$Ledger", name := "<init>", desc := "()V" } : Jvm.MethodName)) ∈ TB := TB_mem 245 (by decide +kernel) (by decide +kernel)
set_option maxRecDepth 20000 in
theorem tb246 : (Jvm.Cond.code ({ cls := "InvoiceSmith$Ledger", name := "<init>", desc := "()V" } : Jvm.MethodName) prog_4_method_1_code (1 : Nat) (Option.none : Option Jvm.ClassFile.FieldType)) ∈ TB := TB_mem 246 (by decide +kernel) (by decide +kernel)
set_option maxRecDepth 20000 in
theorem tb247 : (Jvm.Cond.methodLink "InvoiceSmith$Ledger" (3 : Nat) ({ cls := "java/lang/Object", name := "<init>", desc := "()V" } : Jvm.MethodName)) ∈ TB := TB_mem 247 (by decide +kernel) (by decide +kernel)
set_option maxRecDepth 20000 in
theorem tb248 : (Jvm.Cond.fieldLink "InvoiceSmith$Ledger" (9 : Nat) "InvoiceSmith$Ledger" "invoices" "[I") ∈ TB := TB_mem 248 (by decide +kernel) (by decide +kernel)
set_option maxRecDepth 20000 in
theorem tb249 : (Jvm.Cond.fieldLink "InvoiceSmith$Ledger" (15 : Nat) "InvoiceSmith$Ledger" "differences" "[I") ∈ TB := TB_mem 249 (by decide +kernel) (by decide +kernel)
set_option maxRecDepth 20000 in
theorem tb250 : (Jvm.Cond.fieldLink "InvoiceSmith$Ledger" (18 : Nat) "InvoiceSmith$Ledger" "days" "[I") ∈ TB := TB_mem 250 (by decide +kernel) (by decide +kernel)
set_option maxRecDepth 20000 in
theorem tb251 : (Jvm.Cond.fieldLink "InvoiceSmith$Ledger" (21 : Nat) "InvoiceSmith$Ledger" "count" "I") ∈ TB := TB_mem 251 (by decide +kernel) (by decide +kernel)
set_option maxRecDepth 20000 in
theorem tn252 : (Jvm.Cond.fieldLinkNest "InvoiceSmith" (249 : Nat) "InvoiceSmith$Ledger" "count" "I" "InvoiceSmith") ∈ TN := TN_mem 252 (by decide +kernel) (by decide +kernel)
set_option maxRecDepth 20000 in
theorem tb261 : (Jvm.Cond.superclass "InvoiceSmith$Ledger" "java/lang/Object") ∈ TB := TB_mem 261 (by decide +kernel) (by decide +kernel)
set_option maxRecDepth 20000 in
theorem tb262 : (Jvm.Cond.fieldLink "InvoiceSmith" (10 : Nat) "InvoiceSmith" "reader" "LInvoiceSmith$Reader;") ∈ TB := TB_mem 262 (by decide +kernel) (by decide +kernel)
set_option maxRecDepth 20000 in
theorem tb263 : (Jvm.Cond.fieldLink "InvoiceSmith" (19 : Nat) "InvoiceSmith" "writer" "LInvoiceSmith$Writer;") ∈ TB := TB_mem 263 (by decide +kernel) (by decide +kernel)
set_option maxRecDepth 20000 in
theorem tb264 : (Jvm.Cond.fieldLink "InvoiceSmith" (25 : Nat) "InvoiceSmith" "forms" "[LInvoiceSmith$Form;") ∈ TB := TB_mem 264 (by decide +kernel) (by decide +kernel)
set_option maxRecDepth 20000 in
theorem tb265 : (Jvm.Cond.fieldLink "InvoiceSmith" (94 : Nat) "InvoiceSmith" "formCount" "I") ∈ TB := TB_mem 265 (by decide +kernel) (by decide +kernel)
set_option maxRecDepth 20000 in
theorem tb266 : (Jvm.Cond.fieldLink "InvoiceSmith" (115 : Nat) "InvoiceSmith" "today" "I") ∈ TB := TB_mem 266 (by decide +kernel) (by decide +kernel)
set_option maxRecDepth 20000 in
theorem tb267 : (Jvm.Cond.fieldLink "InvoiceSmith" (32 : Nat) "InvoiceSmith" "rates" "LInvoiceSmith$Rates;") ∈ TB := TB_mem 267 (by decide +kernel) (by decide +kernel)
set_option maxRecDepth 20000 in
theorem tb268 : (Jvm.Cond.fieldLink "InvoiceSmith" (36 : Nat) "InvoiceSmith" "ways" "[I") ∈ TB := TB_mem 268 (by decide +kernel) (by decide +kernel)
set_option maxRecDepth 20000 in
theorem tb269 : (Jvm.Cond.fieldLink "InvoiceSmith" (40 : Nat) "InvoiceSmith" "placesOfClients" "[I") ∈ TB := TB_mem 269 (by decide +kernel) (by decide +kernel)
set_option maxRecDepth 20000 in
theorem tb270 : (Jvm.Cond.fieldLink "InvoiceSmith" (46 : Nat) "InvoiceSmith" "draft" "LInvoiceSmith$Bill;") ∈ TB := TB_mem 270 (by decide +kernel) (by decide +kernel)
set_option maxRecDepth 20000 in
theorem tb271 : (Jvm.Cond.fieldLink "InvoiceSmith" (50 : Nat) "InvoiceSmith" "bills" "[LInvoiceSmith$Bill;") ∈ TB := TB_mem 271 (by decide +kernel) (by decide +kernel)
set_option maxRecDepth 20000 in
theorem tb272 : (Jvm.Cond.fieldLink "InvoiceSmith" (175 : Nat) "InvoiceSmith" "billCount" "I") ∈ TB := TB_mem 272 (by decide +kernel) (by decide +kernel)
set_option maxRecDepth 20000 in
theorem tb273 : (Jvm.Cond.fieldLink "InvoiceSmith" (54 : Nat) "InvoiceSmith" "hundredthsNow" "[I") ∈ TB := TB_mem 273 (by decide +kernel) (by decide +kernel)
set_option maxRecDepth 20000 in
theorem tb274 : (Jvm.Cond.fieldLink "InvoiceSmith" (60 : Nat) "InvoiceSmith" "ledger" "LInvoiceSmith$Ledger;") ∈ TB := TB_mem 274 (by decide +kernel) (by decide +kernel)
set_option maxRecDepth 20000 in
theorem tb301 : (Jvm.Cond.superclass "InvoiceSmith" "java/lang/Object") ∈ TB := TB_mem 301 (by decide +kernel) (by decide +kernel)
set_option maxRecDepth 20000 in
theorem tb302 : (Jvm.Cond.methodLink "InvoiceSmithLaw" (47 : Nat) ({ cls := "InvoiceSmith", name := "template", desc := "(I)I" } : Jvm.MethodName)) ∈ TB := TB_mem 302 (by decide +kernel) (by decide +kernel)
set_option maxRecDepth 20000 in
theorem tb303 : (Jvm.Cond.instanceMethod ({ cls := "InvoiceSmith", name := "template", desc := "(I)I" } : Jvm.MethodName)) ∈ TB := TB_mem 303 (by decide +kernel) (by decide +kernel)
set_option maxRecDepth 20000 in
theorem tb304 : (Jvm.Cond.selects "InvoiceSmith" ({ cls := "InvoiceSmith", name := "template", desc := "(I)I" } : Jvm.MethodName) ({ cls := "InvoiceSmith", name := "template", desc := "(I)I" } : Jvm.MethodName)) ∈ TB := TB_mem 304 (by decide +kernel) (by decide +kernel)
set_option maxRecDepth 20000 in
theorem tb305 : (Jvm.Cond.code ({ cls := "InvoiceSmith", name := "template", desc := "(I)I" } : Jvm.MethodName) prog_1_method_3_code (4 : Nat) (Option.some Jvm.ClassFile.FieldType.int)) ∈ TB := TB_mem 305 (by decide +kernel) (by decide +kernel)
set_option maxRecDepth 20000 in
theorem tb306 : (Jvm.Cond.classLink "InvoiceSmith" (97 : Nat) "java/lang/IndexOutOfBoundsException") ∈ TB := TB_mem 306 (by decide +kernel) (by decide +kernel)
set_option maxRecDepth 20000 in
theorem tb307 : (Jvm.Cond.instantiable "java/lang/IndexOutOfBoundsException" (6 : Nat)) ∈ TB := TB_mem 307 (by decide +kernel) (by decide +kernel)
set_option maxRecDepth 20000 in
theorem tn308 : (Jvm.Cond.castable "java/lang/IndexOutOfBoundsException" "java/lang/IndexOutOfBoundsException") ∈ TN := TN_mem 308 (by decide +kernel) (by decide +kernel)
set_option maxRecDepth 20000 in
theorem tn309 : (Jvm.Cond.declares ({ cls := "java/lang/RuntimeException", name := "<init>", desc := "()V" } : Jvm.MethodName)) ∈ TN := TN_mem 309 (by decide +kernel) (by decide +kernel)
set_option maxRecDepth 20000 in
theorem tn310 : (Jvm.Cond.declares ({ cls := "java/lang/RuntimeException", name := "<init>", desc := "(Ljava/lang/String;)V" } : Jvm.MethodName)) ∈ TN := TN_mem 310 (by decide +kernel) (by decide +kernel)
set_option maxRecDepth 20000 in
theorem tn311 : (Jvm.Cond.declares ({ cls := "java/lang/Exception", name := "<init>", desc := "()V" } : Jvm.MethodName)) ∈ TN := TN_mem 311 (by decide +kernel) (by decide +kernel)
set_option maxRecDepth 20000 in
theorem tn312 : (Jvm.Cond.declares ({ cls := "java/lang/Exception", name := "<init>", desc := "(Ljava/lang/String;)V" } : Jvm.MethodName)) ∈ TN := TN_mem 312 (by decide +kernel) (by decide +kernel)
set_option maxRecDepth 20000 in
theorem tn313 : (Jvm.Cond.declares ({ cls := "java/lang/Throwable", name := "<init>", desc := "()V" } : Jvm.MethodName)) ∈ TN := TN_mem 313 (by decide +kernel) (by decide +kernel)
set_option maxRecDepth 20000 in
theorem tn314 : (Jvm.Cond.declares ({ cls := "java/lang/Throwable", name := "<init>", desc := "(Ljava/lang/String;)V" } : Jvm.MethodName)) ∈ TN := TN_mem 314 (by decide +kernel) (by decide +kernel)
set_option maxRecDepth 20000 in
theorem tb315 : (Jvm.Cond.selects "java/lang/IndexOutOfBoundsException" ({ cls := "java/lang/Throwable", name := "fillInStackTrace", desc := "(I)Ljava/lang/Throwable;" } : Jvm.MethodName) ({ cls := "java/lang/Throwable", name := "fillInStackTrace", desc := "(I)Ljava/lang/Throwable;" } : Jvm.MethodName)) ∈ TB := TB_mem 315 (by decide +kernel) (by decide +kernel)
set_option maxRecDepth 20000 in
theorem tb316 : (Jvm.Cond.selects "java/lang/IndexOutOfBoundsException" ({ cls := "java/lang/Throwable", name := "fillInStackTrace", desc := "()Ljava/lang/Throwable;" } : Jvm.MethodName) ({ cls := "java/lang/Throwable", name := "fillInStackTrace", desc := "()Ljava/lang/Throwable;" } : Jvm.MethodName)) ∈ TB := TB_mem 316 (by decide +kernel) (by decide +kernel)
set_option maxRecDepth 20000 in
theorem tb327 : (Jvm.Cond.fieldLink "java/lang/Throwable" (198 : Nat) "java/lang/Throwable" "backtrace" "Ljava/lang/Object;") ∈ TB := TB_mem 327 (by decide +kernel) (by decide +kernel)
set_option maxRecDepth 20000 in
theorem tb328 : (Jvm.Cond.superclass "java/lang/Throwable" "java/lang/Object") ∈ TB := TB_mem 328 (by decide +kernel) (by decide +kernel)
set_option maxRecDepth 20000 in
theorem tb329 : (Jvm.Cond.instanceMethod ({ cls := "java/lang/Throwable", name := "<init>", desc := "()V" } : Jvm.MethodName)) ∈ TB := TB_mem 329 (by decide +kernel) (by decide +kernel)
set_option maxRecDepth 20000 in
theorem tb330 : (Jvm.Cond.code ({ cls := "java/lang/Throwable", name := "<init>", desc := "()V" } : Jvm.MethodName) prog_21_method_1_code (1 : Nat) (Option.none : Option Jvm.ClassFile.FieldType)) ∈ TB := TB_mem 330 (by decide +kernel) (by decide +kernel)
set_option maxRecDepth 20000 in
theorem tb331 : (Jvm.Cond.methodLink "java/lang/Throwable" (1 : Nat) ({ cls := "java/lang/Object", name := "<init>", desc := "()V" } : Jvm.MethodName)) ∈ TB := TB_mem 331 (by decide +kernel) (by decide +kernel)
set_option maxRecDepth 20000 in
theorem tb332 : (Jvm.Cond.fieldLink "java/lang/Throwable" (13 : Nat) "java/lang/Throwable" "UNASSIGNED_STACK" "[Ljava/lang/StackTraceElement;") ∈ TB := TB_mem 332 (by decide +kernel) (by decide +kernel)
set_option maxRecDepth 20000 in
theorem tb334 : (Jvm.Cond.fieldLink "java/lang/Throwable" (20 : Nat) "java/lang/Throwable" "SUPPRESSED_SENTINEL" "Ljava/util/List;") ∈ TB := TB_mem 334 (by decide +kernel) (by decide +kernel)
set_option maxRecDepth 20000 in
theorem tb336 : (Jvm.Cond.methodLink "java/lang/Throwable" (27 : Nat) ({ cls := "java/lang/Throwable", name := "fillInStackTrace", desc := "()Ljava/lang/Throwable;" } : Jvm.MethodName)) ∈ TB := TB_mem 336 (by decide +kernel) (by decide +kernel)
set_option maxRecDepth 20000 in
theorem tb337 : (Jvm.Cond.instanceMethod ({ cls := "java/lang/Throwable", name := "fillInStackTrace", desc := "()Ljava/lang/Throwable;" } : Jvm.MethodName)) ∈ TB := TB_mem 337 (by decide +kernel) (by decide +kernel)
set_option maxRecDepth 20000 in
theorem tb339 : (Jvm.Cond.selects "java/lang/IllegalArgumentException" ({ cls := "java/lang/Throwable", name := "fillInStackTrace", desc := "()Ljava/lang/Throwable;" } : Jvm.MethodName) ({ cls := "java/lang/Throwable", name := "fillInStackTrace", desc := "()Ljava/lang/Throwable;" } : Jvm.MethodName)) ∈ TB := TB_mem 339 (by decide +kernel) (by decide +kernel)
set_option maxRecDepth 20000 in
theorem tb340 : (Jvm.Cond.selects "java/lang/IllegalStateException" ({ cls := "java/lang/Throwable", name := "fillInStackTrace", desc := "()Ljava/lang/Throwable;" } : Jvm.MethodName) ({ cls := "java/lang/Throwable", name := "fillInStackTrace", desc := "()Ljava/lang/Throwable;" } : Jvm.MethodName)) ∈ TB := TB_mem 340 (by decide +kernel) (by decide +kernel)
set_option maxRecDepth 20000 in
theorem tb342 : (Jvm.Cond.methodLink "java/lang/Throwable" (202 : Nat) ({ cls := "java/lang/Throwable", name := "fillInStackTrace", desc := "(I)Ljava/lang/Throwable;" } : Jvm.MethodName)) ∈ TB := TB_mem 342 (by decide +kernel) (by decide +kernel)
set_option maxRecDepth 20000 in
theorem tb344 : (Jvm.Cond.instanceMethod ({ cls := "java/lang/Throwable", name := "fillInStackTrace", desc := "(I)Ljava/lang/Throwable;" } : Jvm.MethodName)) ∈ TB := TB_mem 344 (by decide +kernel) (by decide +kernel)
set_option maxRecDepth 20000 in
theorem tb345 : (Jvm.Cond.instantiable "java/lang/Throwable" (6 : Nat)) ∈ TB := TB_mem 345 (by decide +kernel) (by decide +kernel)
set_option maxRecDepth 20000 in
theorem tb348 : (Jvm.Cond.methodLink "InvoiceSmith" (101 : Nat) ({ cls := "java/lang/IndexOutOfBoundsException", name := "<init>", desc := "(Ljava/lang/String;)V" } : Jvm.MethodName)) ∈ TB := TB_mem 348 (by decide +kernel) (by decide +kernel)
set_option maxRecDepth 20000 in
theorem tb349 : (Jvm.Cond.instanceMethod ({ cls := "java/lang/IndexOutOfBoundsException", name := "<init>", desc := "(Ljava/lang/String;)V" } : Jvm.MethodName)) ∈ TB := TB_mem 349 (by decide +kernel) (by decide +kernel)
set_option maxRecDepth 20000 in
theorem tb350 : (Jvm.Cond.code ({ cls := "java/lang/IndexOutOfBoundsException", name := "<init>", desc := "(Ljava/lang/String;)V" } : Jvm.MethodName) prog_15_method_2_code (2 : Nat) (Option.none : Option Jvm.ClassFile.FieldType)) ∈ TB := TB_mem 350 (by decide +kernel) (by decide +kernel)
set_option maxRecDepth 20000 in
theorem tb351 : (Jvm.Cond.methodLink "java/lang/IndexOutOfBoundsException" (7 : Nat) ({ cls := "java/lang/RuntimeException", name := "<init>", desc := "(Ljava/lang/String;)V" } : Jvm.MethodName)) ∈ TB := TB_mem 351 (by decide +kernel) (by decide +kernel)
set_option maxRecDepth 20000 in
theorem tb352 : (Jvm.Cond.instanceMethod ({ cls := "java/lang/RuntimeException", name := "<init>", desc := "(Ljava/lang/String;)V" } : Jvm.MethodName)) ∈ TB := TB_mem 352 (by decide +kernel) (by decide +kernel)
set_option maxRecDepth 20000 in
theorem tb353 : (Jvm.Cond.code ({ cls := "java/lang/RuntimeException", name := "<init>", desc := "(Ljava/lang/String;)V" } : Jvm.MethodName) prog_17_method_2_code (2 : Nat) (Option.none : Option Jvm.ClassFile.FieldType)) ∈ TB := TB_mem 353 (by decide +kernel) (by decide +kernel)
set_option maxRecDepth 20000 in
theorem tb354 : (Jvm.Cond.methodLink "java/lang/RuntimeException" (7 : Nat) ({ cls := "java/lang/Exception", name := "<init>", desc := "(Ljava/lang/String;)V" } : Jvm.MethodName)) ∈ TB := TB_mem 354 (by decide +kernel) (by decide +kernel)
set_option maxRecDepth 20000 in
theorem tb355 : (Jvm.Cond.instanceMethod ({ cls := "java/lang/Exception", name := "<init>", desc := "(Ljava/lang/String;)V" } : Jvm.MethodName)) ∈ TB := TB_mem 355 (by decide +kernel) (by decide +kernel)
set_option maxRecDepth 20000 in
theorem tb356 : (Jvm.Cond.code ({ cls := "java/lang/Exception", name := "<init>", desc := "(Ljava/lang/String;)V" } : Jvm.MethodName) prog_12_method_2_code (2 : Nat) (Option.none : Option Jvm.ClassFile.FieldType)) ∈ TB := TB_mem 356 (by decide +kernel) (by decide +kernel)
set_option maxRecDepth 20000 in
theorem tb357 : (Jvm.Cond.methodLink "java/lang/Exception" (7 : Nat) ({ cls := "java/lang/Throwable", name := "<init>", desc := "(Ljava/lang/String;)V" } : Jvm.MethodName)) ∈ TB := TB_mem 357 (by decide +kernel) (by decide +kernel)
set_option maxRecDepth 20000 in
theorem tb358 : (Jvm.Cond.instanceMethod ({ cls := "java/lang/Throwable", name := "<init>", desc := "(Ljava/lang/String;)V" } : Jvm.MethodName)) ∈ TB := TB_mem 358 (by decide +kernel) (by decide +kernel)
set_option maxRecDepth 20000 in
theorem tb359 : (Jvm.Cond.code ({ cls := "java/lang/Throwable", name := "<init>", desc := "(Ljava/lang/String;)V" } : Jvm.MethodName) prog_21_method_2_code (2 : Nat) (Option.none : Option Jvm.ClassFile.FieldType)) ∈ TB := TB_mem 359 (by decide +kernel) (by decide +kernel)
set_option maxRecDepth 20000 in
theorem tb360 : (Jvm.Cond.fieldLink "java/lang/Throwable" (198 : Nat) "java/lang/Throwable" "backtrace" "Ljava/lang/Object;") ∈ TB := TB_mem 360 (by decide +kernel) (by decide +kernel)
set_option maxRecDepth 20000 in
theorem tb361 : (Jvm.Cond.fieldLink "java/lang/Throwable" (31 : Nat) "java/lang/Throwable" "detailMessage" "Ljava/lang/String;") ∈ TB := TB_mem 361 (by decide +kernel) (by decide +kernel)
set_option maxRecDepth 20000 in
theorem tb362 : (Jvm.Cond.fieldLink "java/lang/Throwable" (7 : Nat) "java/lang/Throwable" "cause" "Ljava/lang/Throwable;") ∈ TB := TB_mem 362 (by decide +kernel) (by decide +kernel)
set_option maxRecDepth 20000 in
theorem tb363 : (Jvm.Cond.fieldLink "java/lang/Throwable" (17 : Nat) "java/lang/Throwable" "stackTrace" "[Ljava/lang/StackTraceElement;") ∈ TB := TB_mem 363 (by decide +kernel) (by decide +kernel)
set_option maxRecDepth 20000 in
theorem tb364 : (Jvm.Cond.fieldLink "java/lang/Throwable" (24 : Nat) "java/lang/Throwable" "suppressedExceptions" "Ljava/util/List;") ∈ TB := TB_mem 364 (by decide +kernel) (by decide +kernel)
set_option maxRecDepth 20000 in
theorem tb372 : (Jvm.Cond.superclass "java/lang/IndexOutOfBoundsException" "java/lang/RuntimeException") ∈ TB := TB_mem 372 (by decide +kernel) (by decide +kernel)
set_option maxRecDepth 20000 in
theorem tb373 : (Jvm.Cond.arrayClass Jvm.ClassFile.FieldType.byte) ∈ TB := TB_mem 373 (by decide +kernel) (by decide +kernel)
set_option maxRecDepth 20000 in
theorem tb374 : (Jvm.Cond.classLink "InvoiceSmith" (85 : Nat) "java/lang/IllegalStateException") ∈ TB := TB_mem 374 (by decide +kernel) (by decide +kernel)
set_option maxRecDepth 20000 in
theorem tb375 : (Jvm.Cond.instantiable "java/lang/IllegalStateException" (6 : Nat)) ∈ TB := TB_mem 375 (by decide +kernel) (by decide +kernel)
set_option maxRecDepth 20000 in
theorem tn376 : (Jvm.Cond.castable "java/lang/IllegalStateException" "java/lang/IllegalStateException") ∈ TN := TN_mem 376 (by decide +kernel) (by decide +kernel)
set_option maxRecDepth 20000 in
theorem tb377 : (Jvm.Cond.selects "java/lang/IllegalStateException" ({ cls := "java/lang/Throwable", name := "fillInStackTrace", desc := "(I)Ljava/lang/Throwable;" } : Jvm.MethodName) ({ cls := "java/lang/Throwable", name := "fillInStackTrace", desc := "(I)Ljava/lang/Throwable;" } : Jvm.MethodName)) ∈ TB := TB_mem 377 (by decide +kernel) (by decide +kernel)
set_option maxRecDepth 20000 in
theorem tb384 : (Jvm.Cond.methodLink "InvoiceSmith" (89 : Nat) ({ cls := "java/lang/IllegalStateException", name := "<init>", desc := "(Ljava/lang/String;)V" } : Jvm.MethodName)) ∈ TB := TB_mem 384 (by decide +kernel) (by decide +kernel)
set_option maxRecDepth 20000 in
theorem tb385 : (Jvm.Cond.instanceMethod ({ cls := "java/lang/IllegalStateException", name := "<init>", desc := "(Ljava/lang/String;)V" } : Jvm.MethodName)) ∈ TB := TB_mem 385 (by decide +kernel) (by decide +kernel)
set_option maxRecDepth 20000 in
theorem tb386 : (Jvm.Cond.code ({ cls := "java/lang/IllegalStateException", name := "<init>", desc := "(Ljava/lang/String;)V" } : Jvm.MethodName) prog_14_method_2_code (2 : Nat) (Option.none : Option Jvm.ClassFile.FieldType)) ∈ TB := TB_mem 386 (by decide +kernel) (by decide +kernel)
set_option maxRecDepth 20000 in
theorem tb387 : (Jvm.Cond.methodLink "java/lang/IllegalStateException" (7 : Nat) ({ cls := "java/lang/RuntimeException", name := "<init>", desc := "(Ljava/lang/String;)V" } : Jvm.MethodName)) ∈ TB := TB_mem 387 (by decide +kernel) (by decide +kernel)
set_option maxRecDepth 20000 in
theorem tb389 : (Jvm.Cond.superclass "java/lang/IllegalStateException" "java/lang/RuntimeException") ∈ TB := TB_mem 389 (by decide +kernel) (by decide +kernel)
set_option maxRecDepth 20000 in
theorem tn390 : (Jvm.Cond.methodLinkNest "InvoiceSmith" (104 : Nat) ({ cls := "InvoiceSmith$Reader", name := "readPage", desc := "()I" } : Jvm.MethodName) "InvoiceSmith") ∈ TN := TN_mem 390 (by decide +kernel) (by decide +kernel)
set_option maxRecDepth 20000 in
theorem tb392 : (Jvm.Cond.instanceMethod ({ cls := "InvoiceSmith$Reader", name := "readPage", desc := "()I" } : Jvm.MethodName)) ∈ TB := TB_mem 392 (by decide +kernel) (by decide +kernel)
set_option maxRecDepth 20000 in
theorem tb393 : (Jvm.Cond.code ({ cls := "InvoiceSmith$Reader", name := "readPage", desc := "()I" } : Jvm.MethodName) prog_7_method_2_code (2 : Nat) (Option.some Jvm.ClassFile.FieldType.int)) ∈ TB := TB_mem 393 (by decide +kernel) (by decide +kernel)
set_option maxRecDepth 20000 in
theorem tb394 : (Jvm.Cond.methodLink "InvoiceSmith$Reader" (35 : Nat) ({ cls := "InvoiceSmith$Reader", name := "readParts", desc := "(IZZ)Z" } : Jvm.MethodName)) ∈ TB := TB_mem 394 (by decide +kernel) (by decide +kernel)
set_option maxRecDepth 20000 in
theorem tb396 : (Jvm.Cond.instanceMethod ({ cls := "InvoiceSmith$Reader", name := "readParts", desc := "(IZZ)Z" } : Jvm.MethodName)) ∈ TB := TB_mem 396 (by decide +kernel) (by decide +kernel)
set_option maxRecDepth 20000 in
theorem tb397 : (Jvm.Cond.code ({ cls := "InvoiceSmith$Reader", name := "readParts", desc := "(IZZ)Z" } : Jvm.MethodName) prog_7_method_4_code (7 : Nat) (Option.some Jvm.ClassFile.FieldType.boolean)) ∈ TB := TB_mem 397 (by decide +kernel) (by decide +kernel)
set_option maxRecDepth 20000 in
theorem tn398 : (Jvm.Cond.methodLinkNest "InvoiceSmith$Reader" (40 : Nat) ({ cls := "InvoiceSmith$Page", name := "signAt", desc := "(I)C" } : Jvm.MethodName) "InvoiceSmith") ∈ TN := TN_mem 398 (by decide +kernel) (by decide +kernel)
set_option maxRecDepth 20000 in
theorem tb400 : (Jvm.Cond.instanceMethod ({ cls := "InvoiceSmith$Page", name := "signAt", desc := "(I)C" } : Jvm.MethodName)) ∈ TB := TB_mem 400 (by decide +kernel) (by decide +kernel)
set_option maxRecDepth 20000 in
theorem tb401 : (Jvm.Cond.code ({ cls := "InvoiceSmith$Page", name := "signAt", desc := "(I)C" } : Jvm.MethodName) prog_5_method_4_code (2 : Nat) (Option.some Jvm.ClassFile.FieldType.char)) ∈ TB := TB_mem 401 (by decide +kernel) (by decide +kernel)
set_option maxRecDepth 20000 in
theorem tn402 : (Jvm.Cond.methodLinkNest "InvoiceSmith$Page" (25 : Nat) ({ cls := "InvoiceSmith", name := "get", desc := "([II)I" } : Jvm.MethodName) "InvoiceSmith") ∈ TN := TN_mem 402 (by decide +kernel) (by decide +kernel)
set_option maxRecDepth 20000 in
theorem tb403 : (Jvm.Cond.static ({ cls := "InvoiceSmith", name := "get", desc := "([II)I" } : Jvm.MethodName)) ∈ TB := TB_mem 403 (by decide +kernel) (by decide +kernel)
set_option maxRecDepth 20000 in
theorem tb404 : (Jvm.Cond.code ({ cls := "InvoiceSmith", name := "get", desc := "([II)I" } : Jvm.MethodName) prog_1_method_28_code (2 : Nat) (Option.some Jvm.ClassFile.FieldType.int)) ∈ TB := TB_mem 404 (by decide +kernel) (by decide +kernel)
set_option maxRecDepth 20000 in
theorem tb405 : (Jvm.Cond.methodLink "InvoiceSmith$Reader" (44 : Nat) ({ cls := "InvoiceSmith$Reader", name := "endsLoop", desc := "()Z" } : Jvm.MethodName)) ∈ TB := TB_mem 405 (by decide +kernel) (by decide +kernel)
set_option maxRecDepth 20000 in
theorem tb407 : (Jvm.Cond.instanceMethod ({ cls := "InvoiceSmith$Reader", name := "endsLoop", desc := "()Z" } : Jvm.MethodName)) ∈ TB := TB_mem 407 (by decide +kernel) (by decide +kernel)
set_option maxRecDepth 20000 in
theorem tb408 : (Jvm.Cond.code ({ cls := "InvoiceSmith$Reader", name := "endsLoop", desc := "()Z" } : Jvm.MethodName) prog_7_method_5_code (1 : Nat) (Option.some Jvm.ClassFile.FieldType.boolean)) ∈ TB := TB_mem 408 (by decide +kernel) (by decide +kernel)
set_option maxRecDepth 20000 in
theorem tn409 : (Jvm.Cond.methodLinkNest "InvoiceSmith$Reader" (48 : Nat) ({ cls := "InvoiceSmith$Form", name := "add", desc := "(III)I" } : Jvm.MethodName) "InvoiceSmith") ∈ TN := TN_mem 409 (by decide +kernel) (by decide +kernel)
set_option maxRecDepth 20000 in
theorem tb411 : (Jvm.Cond.instanceMethod ({ cls := "InvoiceSmith$Form", name := "add", desc := "(III)I" } : Jvm.MethodName)) ∈ TB := TB_mem 411 (by decide +kernel) (by decide +kernel)
set_option maxRecDepth 20000 in
theorem tb412 : (Jvm.Cond.code ({ cls := "InvoiceSmith$Form", name := "add", desc := "(III)I" } : Jvm.MethodName) prog_3_method_2_code (5 : Nat) (Option.some Jvm.ClassFile.FieldType.int)) ∈ TB := TB_mem 412 (by decide +kernel) (by decide +kernel)
set_option maxRecDepth 20000 in
theorem tn413 : (Jvm.Cond.methodLinkNest "InvoiceSmith$Form" (25 : Nat) ({ cls := "InvoiceSmith", name := "set", desc := "([III)V" } : Jvm.MethodName) "InvoiceSmith") ∈ TN := TN_mem 413 (by decide +kernel) (by decide +kernel)
set_option maxRecDepth 20000 in
theorem tb414 : (Jvm.Cond.static ({ cls := "InvoiceSmith", name := "set", desc := "([III)V" } : Jvm.MethodName)) ∈ TB := TB_mem 414 (by decide +kernel) (by decide +kernel)
set_option maxRecDepth 20000 in
theorem tb415 : (Jvm.Cond.code ({ cls := "InvoiceSmith", name := "set", desc := "([III)V" } : Jvm.MethodName) prog_1_method_29_code (3 : Nat) (Option.none : Option Jvm.ClassFile.FieldType)) ∈ TB := TB_mem 415 (by decide +kernel) (by decide +kernel)
set_option maxRecDepth 20000 in
theorem tb416 : (Jvm.Cond.methodLink "InvoiceSmith$Reader" (52 : Nat) ({ cls := "InvoiceSmith$Reader", name := "readLoop", desc := "(I)Z" } : Jvm.MethodName)) ∈ TB := TB_mem 416 (by decide +kernel) (by decide +kernel)
set_option maxRecDepth 20000 in
theorem tb418 : (Jvm.Cond.instanceMethod ({ cls := "InvoiceSmith$Reader", name := "readLoop", desc := "(I)Z" } : Jvm.MethodName)) ∈ TB := TB_mem 418 (by decide +kernel) (by decide +kernel)
set_option maxRecDepth 20000 in
theorem tb419 : (Jvm.Cond.code ({ cls := "InvoiceSmith$Reader", name := "readLoop", desc := "(I)Z" } : Jvm.MethodName) prog_7_method_6_code (3 : Nat) (Option.some Jvm.ClassFile.FieldType.boolean)) ∈ TB := TB_mem 419 (by decide +kernel) (by decide +kernel)
set_option maxRecDepth 20000 in
theorem tb420 : (Jvm.Cond.methodLink "InvoiceSmith$Reader" (56 : Nat) ({ cls := "InvoiceSmith$Reader", name := "readChoice", desc := "(IZ)Z" } : Jvm.MethodName)) ∈ TB := TB_mem 420 (by decide +kernel) (by decide +kernel)
set_option maxRecDepth 20000 in
theorem tb422 : (Jvm.Cond.instanceMethod ({ cls := "InvoiceSmith$Reader", name := "readChoice", desc := "(IZ)Z" } : Jvm.MethodName)) ∈ TB := TB_mem 422 (by decide +kernel) (by decide +kernel)
set_option maxRecDepth 20000 in
theorem tb423 : (Jvm.Cond.code ({ cls := "InvoiceSmith$Reader", name := "readChoice", desc := "(IZ)Z" } : Jvm.MethodName) prog_7_method_7_code (6 : Nat) (Option.some Jvm.ClassFile.FieldType.boolean)) ∈ TB := TB_mem 423 (by decide +kernel) (by decide +kernel)
set_option maxRecDepth 20000 in
theorem tb424 : (Jvm.Cond.methodLink "InvoiceSmith$Reader" (64 : Nat) ({ cls := "InvoiceSmith$Reader", name := "readSum", desc := "(Z)Z" } : Jvm.MethodName)) ∈ TB := TB_mem 424 (by decide +kernel) (by decide +kernel)
set_option maxRecDepth 20000 in
theorem tb426 : (Jvm.Cond.instanceMethod ({ cls := "InvoiceSmith$Reader", name := "readSum", desc := "(Z)Z" } : Jvm.MethodName)) ∈ TB := TB_mem 426 (by decide +kernel) (by decide +kernel)
set_option maxRecDepth 20000 in
theorem tb427 : (Jvm.Cond.code ({ cls := "InvoiceSmith$Reader", name := "readSum", desc := "(Z)Z" } : Jvm.MethodName) prog_7_method_9_code (4 : Nat) (Option.some Jvm.ClassFile.FieldType.boolean)) ∈ TB := TB_mem 427 (by decide +kernel) (by decide +kernel)
set_option maxRecDepth 20000 in
theorem tb428 : (Jvm.Cond.methodLink "InvoiceSmith$Reader" (79 : Nat) ({ cls := "InvoiceSmith$Reader", name := "readTerm", desc := "(IZ)Z" } : Jvm.MethodName)) ∈ TB := TB_mem 428 (by decide +kernel) (by decide +kernel)
set_option maxRecDepth 20000 in
theorem tb430 : (Jvm.Cond.instanceMethod ({ cls := "InvoiceSmith$Reader", name := "readTerm", desc := "(IZ)Z" } : Jvm.MethodName)) ∈ TB := TB_mem 430 (by decide +kernel) (by decide +kernel)
set_option maxRecDepth 20000 in
theorem tb431 : (Jvm.Cond.code ({ cls := "InvoiceSmith$Reader", name := "readTerm", desc := "(IZ)Z" } : Jvm.MethodName) prog_7_method_10_code (6 : Nat) (Option.some Jvm.ClassFile.FieldType.boolean)) ∈ TB := TB_mem 431 (by decide +kernel) (by decide +kernel)
set_option maxRecDepth 20000 in
theorem tb432 : (Jvm.Cond.methodLink "InvoiceSmith$Reader" (75 : Nat) ({ cls := "InvoiceSmith$Reader", name := "isName", desc := "(CZ)Z" } : Jvm.MethodName)) ∈ TB := TB_mem 432 (by decide +kernel) (by decide +kernel)
set_option maxRecDepth 20000 in
theorem tb433 : (Jvm.Cond.static ({ cls := "InvoiceSmith$Reader", name := "isName", desc := "(CZ)Z" } : Jvm.MethodName)) ∈ TB := TB_mem 433 (by decide +kernel) (by decide +kernel)
set_option maxRecDepth 20000 in
theorem tb434 : (Jvm.Cond.code ({ cls := "InvoiceSmith$Reader", name := "isName", desc := "(CZ)Z" } : Jvm.MethodName) prog_7_method_11_code (2 : Nat) (Option.some Jvm.ClassFile.FieldType.boolean)) ∈ TB := TB_mem 434 (by decide +kernel) (by decide +kernel)
set_option maxRecDepth 20000 in
theorem tb436 : (Jvm.Cond.methodLink "InvoiceSmith$Reader" (87 : Nat) ({ cls := "java/lang/String", name := "indexOf", desc := "(I)I" } : Jvm.MethodName)) ∈ TB := TB_mem 436 (by decide +kernel) (by decide +kernel)
set_option maxRecDepth 20000 in
theorem tb437 : (Jvm.Cond.instanceMethod ({ cls := "java/lang/String", name := "indexOf", desc := "(I)I" } : Jvm.MethodName)) ∈ TB := TB_mem 437 (by decide +kernel) (by decide +kernel)
set_option maxRecDepth 20000 in
theorem tb438 : (Jvm.Cond.selects "java/lang/String" ({ cls := "java/lang/String", name := "indexOf", desc := "(I)I" } : Jvm.MethodName) ({ cls := "java/lang/String", name := "indexOf", desc := "(I)I" } : Jvm.MethodName)) ∈ TB := TB_mem 438 (by decide +kernel) (by decide +kernel)
set_option maxRecDepth 20000 in
theorem tb439 : (Jvm.Cond.code ({ cls := "java/lang/String", name := "indexOf", desc := "(I)I" } : Jvm.MethodName) prog_18_method_79_code (2 : Nat) (Option.some Jvm.ClassFile.FieldType.int)) ∈ TB := TB_mem 439 (by decide +kernel) (by decide +kernel)
set_option maxRecDepth 20000 in
theorem tb440 : (Jvm.Cond.methodLink "java/lang/String" (633 : Nat) ({ cls := "java/lang/String", name := "indexOf", desc := "(II)I" } : Jvm.MethodName)) ∈ TB := TB_mem 440 (by decide +kernel) (by decide +kernel)
set_option maxRecDepth 20000 in
theorem tb441 : (Jvm.Cond.instanceMethod ({ cls := "java/lang/String", name := "indexOf", desc := "(II)I" } : Jvm.MethodName)) ∈ TB := TB_mem 441 (by decide +kernel) (by decide +kernel)
set_option maxRecDepth 20000 in
theorem tb442 : (Jvm.Cond.selects "java/lang/String" ({ cls := "java/lang/String", name := "indexOf", desc := "(II)I" } : Jvm.MethodName) ({ cls := "java/lang/String", name := "indexOf", desc := "(II)I" } : Jvm.MethodName)) ∈ TB := TB_mem 442 (by decide +kernel) (by decide +kernel)
set_option maxRecDepth 20000 in
theorem tb443 : (Jvm.Cond.code ({ cls := "java/lang/String", name := "indexOf", desc := "(II)I" } : Jvm.MethodName) prog_18_method_80_code (3 : Nat) (Option.some Jvm.ClassFile.FieldType.int)) ∈ TB := TB_mem 443 (by decide +kernel) (by decide +kernel)
set_option maxRecDepth 20000 in
theorem tb444 : (Jvm.Cond.methodLink "java/lang/String" (492 : Nat) ({ cls := "java/lang/String", name := "isLatin1", desc := "()Z" } : Jvm.MethodName)) ∈ TB := TB_mem 444 (by decide +kernel) (by decide +kernel)
set_option maxRecDepth 20000 in
theorem tb445 : (Jvm.Cond.instanceMethod ({ cls := "java/lang/String", name := "isLatin1", desc := "()Z" } : Jvm.MethodName)) ∈ TB := TB_mem 445 (by decide +kernel) (by decide +kernel)
set_option maxRecDepth 20000 in
theorem tb446 : (Jvm.Cond.selects "java/lang/String" ({ cls := "java/lang/String", name := "isLatin1", desc := "()Z" } : Jvm.MethodName) ({ cls := "java/lang/String", name := "isLatin1", desc := "()Z" } : Jvm.MethodName)) ∈ TB := TB_mem 446 (by decide +kernel) (by decide +kernel)
set_option maxRecDepth 20000 in
theorem tb447 : (Jvm.Cond.code ({ cls := "java/lang/String", name := "isLatin1", desc := "()Z" } : Jvm.MethodName) prog_18_method_154_code (1 : Nat) (Option.some Jvm.ClassFile.FieldType.boolean)) ∈ TB := TB_mem 447 (by decide +kernel) (by decide +kernel)
set_option maxRecDepth 20000 in
theorem tb448 : (Jvm.Cond.fieldLink "java/lang/String" (38 : Nat) "java/lang/String" "COMPACT_STRINGS" "Z") ∈ TB := TB_mem 448 (by decide +kernel) (by decide +kernel)
set_option maxRecDepth 20000 in
theorem tb450 : (Jvm.Cond.methodLink "java/lang/String" (505 : Nat) ({ cls := "java/lang/String", name := "length", desc := "()I" } : Jvm.MethodName)) ∈ TB := TB_mem 450 (by decide +kernel) (by decide +kernel)
set_option maxRecDepth 20000 in
theorem tb451 : (Jvm.Cond.instanceMethod ({ cls := "java/lang/String", name := "length", desc := "()I" } : Jvm.MethodName)) ∈ TB := TB_mem 451 (by decide +kernel) (by decide +kernel)
set_option maxRecDepth 20000 in
theorem tb452 : (Jvm.Cond.selects "java/lang/String" ({ cls := "java/lang/String", name := "length", desc := "()I" } : Jvm.MethodName) ({ cls := "java/lang/String", name := "length", desc := "()I" } : Jvm.MethodName)) ∈ TB := TB_mem 452 (by decide +kernel) (by decide +kernel)
set_option maxRecDepth 20000 in
theorem tb453 : (Jvm.Cond.code ({ cls := "java/lang/String", name := "length", desc := "()I" } : Jvm.MethodName) prog_18_method_54_code (1 : Nat) (Option.some Jvm.ClassFile.FieldType.int)) ∈ TB := TB_mem 453 (by decide +kernel) (by decide +kernel)
set_option maxRecDepth 20000 in
theorem tb454 : (Jvm.Cond.methodLink "java/lang/String" (335 : Nat) ({ cls := "java/lang/String", name := "coder", desc := "()B" } : Jvm.MethodName)) ∈ TB := TB_mem 454 (by decide +kernel) (by decide +kernel)
set_option maxRecDepth 20000 in
theorem tb455 : (Jvm.Cond.instanceMethod ({ cls := "java/lang/String", name := "coder", desc := "()B" } : Jvm.MethodName)) ∈ TB := TB_mem 455 (by decide +kernel) (by decide +kernel)
set_option maxRecDepth 20000 in
theorem tb456 : (Jvm.Cond.selects "java/lang/String" ({ cls := "java/lang/String", name := "coder", desc := "()B" } : Jvm.MethodName) ({ cls := "java/lang/String", name := "coder", desc := "()B" } : Jvm.MethodName)) ∈ TB := TB_mem 456 (by decide +kernel) (by decide +kernel)
set_option maxRecDepth 20000 in
theorem tb457 : (Jvm.Cond.code ({ cls := "java/lang/String", name := "coder", desc := "()B" } : Jvm.MethodName) prog_18_method_152_code (1 : Nat) (Option.some Jvm.ClassFile.FieldType.byte)) ∈ TB := TB_mem 457 (by decide +kernel) (by decide +kernel)
set_option maxRecDepth 20000 in
theorem tb458 : (Jvm.Cond.methodLink "java/lang/String" (637 : Nat) ({ cls := "java/lang/StringLatin1", name := "indexOf", desc := "([BIII)I" } : Jvm.MethodName)) ∈ TB := TB_mem 458 (by decide +kernel) (by decide +kernel)
set_option maxRecDepth 20000 in
theorem tb459 : (Jvm.Cond.static ({ cls := "java/lang/StringLatin1", name := "indexOf", desc := "([BIII)I" } : Jvm.MethodName)) ∈ TB := TB_mem 459 (by decide +kernel) (by decide +kernel)
set_option maxRecDepth 20000 in
theorem tb460 : (Jvm.Cond.code ({ cls := "java/lang/StringLatin1", name := "indexOf", desc := "([BIII)I" } : Jvm.MethodName) prog_19_method_22_code (4 : Nat) (Option.some Jvm.ClassFile.FieldType.int)) ∈ TB := TB_mem 460 (by decide +kernel) (by decide +kernel)
set_option maxRecDepth 20000 in
theorem tb461 : (Jvm.Cond.methodLink "java/lang/StringLatin1" (88 : Nat) ({ cls := "java/lang/StringLatin1", name := "canEncode", desc := "(I)Z" } : Jvm.MethodName)) ∈ TB := TB_mem 461 (by decide +kernel) (by decide +kernel)
set_option maxRecDepth 20000 in
theorem tb462 : (Jvm.Cond.static ({ cls := "java/lang/StringLatin1", name := "canEncode", desc := "(I)Z" } : Jvm.MethodName)) ∈ TB := TB_mem 462 (by decide +kernel) (by decide +kernel)
set_option maxRecDepth 20000 in
theorem tb463 : (Jvm.Cond.code ({ cls := "java/lang/StringLatin1", name := "canEncode", desc := "(I)Z" } : Jvm.MethodName) prog_19_method_4_code (1 : Nat) (Option.some Jvm.ClassFile.FieldType.boolean)) ∈ TB := TB_mem 463 (by decide +kernel) (by decide +kernel)
set_option maxRecDepth 20000 in
theorem tb464 : (Jvm.Cond.methodLink "java/lang/StringLatin1" (92 : Nat) ({ cls := "java/lang/Math", name := "max", desc := "(II)I" } : Jvm.MethodName)) ∈ TB := TB_mem 464 (by decide +kernel) (by decide +kernel)
set_option maxRecDepth 20000 in
theorem tb465 : (Jvm.Cond.static ({ cls := "java/lang/Math", name := "max", desc := "(II)I" } : Jvm.MethodName)) ∈ TB := TB_mem 465 (by decide +kernel) (by decide +kernel)
set_option maxRecDepth 20000 in
theorem tb466 : (Jvm.Cond.code ({ cls := "java/lang/Math", name := "max", desc := "(II)I" } : Jvm.MethodName) prog_16_method_65_code (2 : Nat) (Option.some Jvm.ClassFile.FieldType.int)) ∈ TB := TB_mem 466 (by decide +kernel) (by decide +kernel)
set_option maxRecDepth 20000 in
theorem tb467 : (Jvm.Cond.methodLink "java/lang/StringLatin1" (38 : Nat) ({ cls := "java/lang/Math", name := "min", desc := "(II)I" } : Jvm.MethodName)) ∈ TB := TB_mem 467 (by decide +kernel) (by decide +kernel)
set_option maxRecDepth 20000 in
theorem tb468 : (Jvm.Cond.static ({ cls := "java/lang/Math", name := "min", desc := "(II)I" } : Jvm.MethodName)) ∈ TB := TB_mem 468 (by decide +kernel) (by decide +kernel)
set_option maxRecDepth 20000 in
theorem tb469 : (Jvm.Cond.code ({ cls := "java/lang/Math", name := "min", desc := "(II)I" } : Jvm.MethodName) prog_16_method_69_code (2 : Nat) (Option.some Jvm.ClassFile.FieldType.int)) ∈ TB := TB_mem 469 (by decide +kernel) (by decide +kernel)
set_option maxRecDepth 20000 in
theorem tb470 : (Jvm.Cond.methodLink "java/lang/StringLatin1" (95 : Nat) ({ cls := "java/lang/StringLatin1", name := "indexOfChar", desc := "([BIII)I" } : Jvm.MethodName)) ∈ TB := TB_mem 470 (by decide +kernel) (by decide +kernel)
set_option maxRecDepth 20000 in
theorem tb471 : (Jvm.Cond.static ({ cls := "java/lang/StringLatin1", name := "indexOfChar", desc := "([BIII)I" } : Jvm.MethodName)) ∈ TB := TB_mem 471 (by decide +kernel) (by decide +kernel)
set_option maxRecDepth 20000 in
theorem tb472 : (Jvm.Cond.code ({ cls := "java/lang/StringLatin1", name := "indexOfChar", desc := "([BIII)I" } : Jvm.MethodName) prog_19_method_23_code (6 : Nat) (Option.some Jvm.ClassFile.FieldType.int)) ∈ TB := TB_mem 472 (by decide +kernel) (by decide +kernel)
set_option maxRecDepth 20000 in
theorem tb473 : (Jvm.Cond.methodLink "java/lang/String" (640 : Nat) ({ cls := "java/lang/StringUTF16", name := "indexOf", desc := "([BIII)I" } : Jvm.MethodName)) ∈ TB := TB_mem 473 (by decide +kernel) (by decide +kernel)
set_option maxRecDepth 20000 in
theorem tb474 : (Jvm.Cond.static ({ cls := "java/lang/StringUTF16", name := "indexOf", desc := "([BIII)I" } : Jvm.MethodName)) ∈ TB := TB_mem 474 (by decide +kernel) (by decide +kernel)
set_option maxRecDepth 20000 in
theorem tb475 : (Jvm.Cond.code ({ cls := "java/lang/StringUTF16", name := "indexOf", desc := "([BIII)I" } : Jvm.MethodName) prog_20_method_40_code (4 : Nat) (Option.some Jvm.ClassFile.FieldType.int)) ∈ TB := TB_mem 475 (by decide +kernel) (by decide +kernel)
set_option maxRecDepth 20000 in
theorem tb476 : (Jvm.Cond.methodLink "java/lang/StringUTF16" (224 : Nat) ({ cls := "java/lang/Math", name := "max", desc := "(II)I" } : Jvm.MethodName)) ∈ TB := TB_mem 476 (by decide +kernel) (by decide +kernel)
set_option maxRecDepth 20000 in
theorem tb477 : (Jvm.Cond.methodLink "java/lang/StringUTF16" (183 : Nat) ({ cls := "java/lang/Math", name := "min", desc := "(II)I" } : Jvm.MethodName)) ∈ TB := TB_mem 477 (by decide +kernel) (by decide +kernel)
set_option maxRecDepth 20000 in
theorem tb478 : (Jvm.Cond.constant "java/lang/StringUTF16" (227 : Nat) (65536 : Int32)) ∈ TB := TB_mem 478 (by decide +kernel) (by decide +kernel)
set_option maxRecDepth 20000 in
theorem tb479 : (Jvm.Cond.methodLink "java/lang/StringUTF16" (228 : Nat) ({ cls := "java/lang/StringUTF16", name := "indexOfChar", desc := "([BIII)I" } : Jvm.MethodName)) ∈ TB := TB_mem 479 (by decide +kernel) (by decide +kernel)
set_option maxRecDepth 20000 in
theorem tb480 : (Jvm.Cond.static ({ cls := "java/lang/StringUTF16", name := "indexOfChar", desc := "([BIII)I" } : Jvm.MethodName)) ∈ TB := TB_mem 480 (by decide +kernel) (by decide +kernel)
set_option maxRecDepth 20000 in
theorem tb481 : (Jvm.Cond.code ({ cls := "java/lang/StringUTF16", name := "indexOfChar", desc := "([BIII)I" } : Jvm.MethodName) prog_20_method_47_code (4 : Nat) (Option.some Jvm.ClassFile.FieldType.int)) ∈ TB := TB_mem 481 (by decide +kernel) (by decide +kernel)
set_option maxRecDepth 20000 in
theorem tb482 : (Jvm.Cond.methodLink "java/lang/StringUTF16" (96 : Nat) ({ cls := "java/lang/StringUTF16", name := "checkBoundsBeginEnd", desc := "(II[B)V" } : Jvm.MethodName)) ∈ TB := TB_mem 482 (by decide +kernel) (by decide +kernel)
set_option maxRecDepth 20000 in
theorem tb483 : (Jvm.Cond.static ({ cls := "java/lang/StringUTF16", name := "checkBoundsBeginEnd", desc := "(II[B)V" } : Jvm.MethodName)) ∈ TB := TB_mem 483 (by decide +kernel) (by decide +kernel)
set_option maxRecDepth 20000 in
theorem tb484 : (Jvm.Cond.code ({ cls := "java/lang/StringUTF16", name := "checkBoundsBeginEnd", desc := "(II[B)V" } : Jvm.MethodName) prog_20_method_93_code (3 : Nat) (Option.none : Option Jvm.ClassFile.FieldType)) ∈ TB := TB_mem 484 (by decide +kernel) (by decide +kernel)
set_option maxRecDepth 20000 in
theorem tb485 : (Jvm.Cond.methodLink "java/lang/StringUTF16" (48 : Nat) ({ cls := "java/lang/StringUTF16", name := "length", desc := "([B)I" } : Jvm.MethodName)) ∈ TB := TB_mem 485 (by decide +kernel) (by decide +kernel)
set_option maxRecDepth 20000 in
theorem tb486 : (Jvm.Cond.static ({ cls := "java/lang/StringUTF16", name := "length", desc := "([B)I" } : Jvm.MethodName)) ∈ TB := TB_mem 486 (by decide +kernel) (by decide +kernel)
set_option maxRecDepth 20000 in
theorem tb487 : (Jvm.Cond.code ({ cls := "java/lang/StringUTF16", name := "length", desc := "([B)I" } : Jvm.MethodName) prog_20_method_6_code (1 : Nat) (Option.some Jvm.ClassFile.FieldType.int)) ∈ TB := TB_mem 487 (by decide +kernel) (by decide +kernel)
set_option maxRecDepth 20000 in
theorem tb488 : (Jvm.Cond.methodLink "java/lang/StringUTF16" (241 : Nat) ({ cls := "java/lang/String", name := "checkBoundsBeginEnd", desc := "(III)V" } : Jvm.MethodName)) ∈ TB := TB_mem 488 (by decide +kernel) (by decide +kernel)
set_option maxRecDepth 20000 in
theorem tb489 : (Jvm.Cond.static ({ cls := "java/lang/String", name := "checkBoundsBeginEnd", desc := "(III)V" } : Jvm.MethodName)) ∈ TB := TB_mem 489 (by decide +kernel) (by decide +kernel)
set_option maxRecDepth 20000 in
theorem tb490 : (Jvm.Cond.code ({ cls := "java/lang/String", name := "checkBoundsBeginEnd", desc := "(III)V" } : Jvm.MethodName) prog_18_method_158_code (3 : Nat) (Option.none : Option Jvm.ClassFile.FieldType)) ∈ TB := TB_mem 490 (by decide +kernel) (by decide +kernel)
set_option maxRecDepth 20000 in
theorem tb491 : (Jvm.Cond.fieldLink "java/lang/String" (1053 : Nat) "jdk/internal/util/Preconditions" "SIOOBE_FORMATTER" "Ljava/util/function/BiFunction;") ∈ TB := TB_mem 491 (by decide +kernel) (by decide +kernel)
set_option maxRecDepth 20000 in
theorem tb493 : (Jvm.Cond.methodLink "java/lang/String" (1062 : Nat) ({ cls := "jdk/internal/util/Preconditions", name := "checkFromToIndex", desc := "(IIILjava/util/function/BiFunction;)I" } : Jvm.MethodName)) ∈ TB := TB_mem 493 (by decide +kernel) (by decide +kernel)
set_option maxRecDepth 20000 in
theorem tb494 : (Jvm.Cond.static ({ cls := "jdk/internal/util/Preconditions", name := "checkFromToIndex", desc := "(IIILjava/util/function/BiFunction;)I" } : Jvm.MethodName)) ∈ TB := TB_mem 494 (by decide +kernel) (by decide +kernel)
set_option maxRecDepth 20000 in
theorem tb495 : (Jvm.Cond.code ({ cls := "jdk/internal/util/Preconditions", name := "checkFromToIndex", desc := "(IIILjava/util/function/BiFunction;)I" } : Jvm.MethodName) prog_22_method_12_code (4 : Nat) (Option.some Jvm.ClassFile.FieldType.int)) ∈ TB := TB_mem 495 (by decide +kernel) (by decide +kernel)
set_option maxRecDepth 20000 in
theorem tb496 : (Jvm.Cond.methodLink "java/lang/StringUTF16" (244 : Nat) ({ cls := "java/lang/StringUTF16", name := "indexOfCharUnsafe", desc := "([BIII)I" } : Jvm.MethodName)) ∈ TB := TB_mem 496 (by decide +kernel) (by decide +kernel)
set_option maxRecDepth 20000 in
theorem tb497 : (Jvm.Cond.static ({ cls := "java/lang/StringUTF16", name := "indexOfCharUnsafe", desc := "([BIII)I" } : Jvm.MethodName)) ∈ TB := TB_mem 497 (by decide +kernel) (by decide +kernel)
set_option maxRecDepth 20000 in
theorem tb498 : (Jvm.Cond.code ({ cls := "java/lang/StringUTF16", name := "indexOfCharUnsafe", desc := "([BIII)I" } : Jvm.MethodName) prog_20_method_48_code (5 : Nat) (Option.some Jvm.ClassFile.FieldType.int)) ∈ TB := TB_mem 498 (by decide +kernel) (by decide +kernel)
set_option maxRecDepth 20000 in
theorem tb499 : (Jvm.Cond.methodLink "java/lang/StringUTF16" (71 : Nat) ({ cls := "java/lang/StringUTF16", name := "getChar", desc := "([BI)C" } : Jvm.MethodName)) ∈ TB := TB_mem 499 (by decide +kernel) (by decide +kernel)
set_option maxRecDepth 20000 in
theorem tb500 : (Jvm.Cond.static ({ cls := "java/lang/StringUTF16", name := "getChar", desc := "([BI)C" } : Jvm.MethodName)) ∈ TB := TB_mem 500 (by decide +kernel) (by decide +kernel)
set_option maxRecDepth 20000 in
theorem tb501 : (Jvm.Cond.code ({ cls := "java/lang/StringUTF16", name := "getChar", desc := "([BI)C" } : Jvm.MethodName) prog_20_method_5_code (2 : Nat) (Option.some Jvm.ClassFile.FieldType.char)) ∈ TB := TB_mem 501 (by decide +kernel) (by decide +kernel)
set_option maxRecDepth 20000 in
theorem tb502 : (Jvm.Cond.fieldLink "java/lang/StringUTF16" (44 : Nat) "java/lang/StringUTF16" "$assertionsDisabled" "Z") ∈ TB := TB_mem 502 (by decide +kernel) (by decide +kernel)
set_option maxRecDepth 20000 in
theorem tb504 : (Jvm.Cond.fieldLink "java/lang/StringUTF16" (59 : Nat) "java/lang/StringUTF16" "HI_BYTE_SHIFT" "I") ∈ TB := TB_mem 504 (by decide +kernel) (by decide +kernel)
set_option maxRecDepth 20000 in
theorem tb506 : (Jvm.Cond.fieldLink "java/lang/StringUTF16" (63 : Nat) "java/lang/StringUTF16" "LO_BYTE_SHIFT" "I") ∈ TB := TB_mem 506 (by decide +kernel) (by decide +kernel)
set_option maxRecDepth 20000 in
theorem tb508 : (Jvm.Cond.methodLink "java/lang/StringUTF16" (232 : Nat) ({ cls := "java/lang/StringUTF16", name := "indexOfSupplementary", desc := "([BIII)I" } : Jvm.MethodName)) ∈ TB := TB_mem 508 (by decide +kernel) (by decide +kernel)
set_option maxRecDepth 20000 in
theorem tb509 : (Jvm.Cond.static ({ cls := "java/lang/StringUTF16", name := "indexOfSupplementary", desc := "([BIII)I" } : Jvm.MethodName)) ∈ TB := TB_mem 509 (by decide +kernel) (by decide +kernel)
set_option maxRecDepth 20000 in
theorem tb510 : (Jvm.Cond.code ({ cls := "java/lang/StringUTF16", name := "indexOfSupplementary", desc := "([BIII)I" } : Jvm.MethodName) prog_20_method_49_code (7 : Nat) (Option.some Jvm.ClassFile.FieldType.int)) ∈ TB := TB_mem 510 (by decide +kernel) (by decide +kernel)
set_option maxRecDepth 20000 in
theorem tb511 : (Jvm.Cond.methodLink "java/lang/StringUTF16" (164 : Nat) ({ cls := "java/lang/Character", name := "isValidCodePoint", desc := "(I)Z" } : Jvm.MethodName)) ∈ TB := TB_mem 511 (by decide +kernel) (by decide +kernel)
set_option maxRecDepth 20000 in
theorem tb512 : (Jvm.Cond.static ({ cls := "java/lang/Character", name := "isValidCodePoint", desc := "(I)Z" } : Jvm.MethodName)) ∈ TB := TB_mem 512 (by decide +kernel) (by decide +kernel)
set_option maxRecDepth 20000 in
theorem tb513 : (Jvm.Cond.code ({ cls := "java/lang/Character", name := "isValidCodePoint", desc := "(I)Z" } : Jvm.MethodName) prog_11_method_11_code (2 : Nat) (Option.some Jvm.ClassFile.FieldType.boolean)) ∈ TB := TB_mem 513 (by decide +kernel) (by decide +kernel)
set_option maxRecDepth 20000 in
theorem tb514 : (Jvm.Cond.methodLink "java/lang/StringUTF16" (157 : Nat) ({ cls := "java/lang/Character", name := "highSurrogate", desc := "(I)C" } : Jvm.MethodName)) ∈ TB := TB_mem 514 (by decide +kernel) (by decide +kernel)
set_option maxRecDepth 20000 in
theorem tb515 : (Jvm.Cond.static ({ cls := "java/lang/Character", name := "highSurrogate", desc := "(I)C" } : Jvm.MethodName)) ∈ TB := TB_mem 515 (by decide +kernel) (by decide +kernel)
set_option maxRecDepth 20000 in
theorem tb516 : (Jvm.Cond.code ({ cls := "java/lang/Character", name := "highSurrogate", desc := "(I)C" } : Jvm.MethodName) prog_11_method_28_code (1 : Nat) (Option.some Jvm.ClassFile.FieldType.char)) ∈ TB := TB_mem 516 (by decide +kernel) (by decide +kernel)
set_option maxRecDepth 20000 in
theorem tb517 : (Jvm.Cond.constant "java/lang/Character" (110 : Nat) (55232 : Int32)) ∈ TB := TB_mem 517 (by decide +kernel) (by decide +kernel)
set_option maxRecDepth 20000 in
theorem tb518 : (Jvm.Cond.methodLink "java/lang/StringUTF16" (161 : Nat) ({ cls := "java/lang/Character", name := "lowSurrogate", desc := "(I)C" } : Jvm.MethodName)) ∈ TB := TB_mem 518 (by decide +kernel) (by decide +kernel)
set_option maxRecDepth 20000 in
theorem tb519 : (Jvm.Cond.static ({ cls := "java/lang/Character", name := "lowSurrogate", desc := "(I)C" } : Jvm.MethodName)) ∈ TB := TB_mem 519 (by decide +kernel) (by decide +kernel)
set_option maxRecDepth 20000 in
theorem tb520 : (Jvm.Cond.code ({ cls := "java/lang/Character", name := "lowSurrogate", desc := "(I)C" } : Jvm.MethodName) prog_11_method_29_code (1 : Nat) (Option.some Jvm.ClassFile.FieldType.char)) ∈ TB := TB_mem 520 (by decide +kernel) (by decide +kernel)
set_option maxRecDepth 20000 in
theorem tb521 : (Jvm.Cond.constant "java/lang/Character" (76 : Nat) (56320 : Int32)) ∈ TB := TB_mem 521 (by decide +kernel) (by decide +kernel)
set_option maxRecDepth 20000 in
theorem tb523 : (Jvm.Cond.methodLink "InvoiceSmith$Reader" (82 : Nat) ({ cls := "InvoiceSmith$Reader", name := "isDigit", desc := "(C)Z" } : Jvm.MethodName)) ∈ TB := TB_mem 523 (by decide +kernel) (by decide +kernel)
set_option maxRecDepth 20000 in
theorem tb524 : (Jvm.Cond.static ({ cls := "InvoiceSmith$Reader", name := "isDigit", desc := "(C)Z" } : Jvm.MethodName)) ∈ TB := TB_mem 524 (by decide +kernel) (by decide +kernel)
set_option maxRecDepth 20000 in
theorem tb525 : (Jvm.Cond.code ({ cls := "InvoiceSmith$Reader", name := "isDigit", desc := "(C)Z" } : Jvm.MethodName) prog_7_method_12_code (1 : Nat) (Option.some Jvm.ClassFile.FieldType.boolean)) ∈ TB := TB_mem 525 (by decide +kernel) (by decide +kernel)
set_option maxRecDepth 20000 in
theorem tb526 : (Jvm.Cond.methodLink "InvoiceSmith$Reader" (67 : Nat) ({ cls := "InvoiceSmith$Reader", name := "skip", desc := "(C)Z" } : Jvm.MethodName)) ∈ TB := TB_mem 526 (by decide +kernel) (by decide +kernel)
set_option maxRecDepth 20000 in
theorem tb528 : (Jvm.Cond.instanceMethod ({ cls := "InvoiceSmith$Reader", name := "skip", desc := "(C)Z" } : Jvm.MethodName)) ∈ TB := TB_mem 528 (by decide +kernel) (by decide +kernel)
set_option maxRecDepth 20000 in
theorem tb529 : (Jvm.Cond.code ({ cls := "InvoiceSmith$Reader", name := "skip", desc := "(C)Z" } : Jvm.MethodName) prog_7_method_13_code (3 : Nat) (Option.some Jvm.ClassFile.FieldType.boolean)) ∈ TB := TB_mem 529 (by decide +kernel) (by decide +kernel)
set_option maxRecDepth 20000 in
theorem tn530 : (Jvm.Cond.methodLinkNest "InvoiceSmith$Reader" (71 : Nat) ({ cls := "InvoiceSmith$Form", name := "aimHere", desc := "(I)V" } : Jvm.MethodName) "InvoiceSmith") ∈ TN := TN_mem 530 (by decide +kernel) (by decide +kernel)
set_option maxRecDepth 20000 in
theorem tb532 : (Jvm.Cond.instanceMethod ({ cls := "InvoiceSmith$Form", name := "aimHere", desc := "(I)V" } : Jvm.MethodName)) ∈ TB := TB_mem 532 (by decide +kernel) (by decide +kernel)
set_option maxRecDepth 20000 in
theorem tb533 : (Jvm.Cond.code ({ cls := "InvoiceSmith$Form", name := "aimHere", desc := "(I)V" } : Jvm.MethodName) prog_3_method_3_code (2 : Nat) (Option.none : Option Jvm.ClassFile.FieldType)) ∈ TB := TB_mem 533 (by decide +kernel) (by decide +kernel)
set_option maxRecDepth 20000 in
theorem tb534 : (Jvm.Cond.methodLink "InvoiceSmith$Reader" (60 : Nat) ({ cls := "InvoiceSmith$Reader", name := "readField", desc := "(Z)Z" } : Jvm.MethodName)) ∈ TB := TB_mem 534 (by decide +kernel) (by decide +kernel)
set_option maxRecDepth 20000 in
theorem tb536 : (Jvm.Cond.instanceMethod ({ cls := "InvoiceSmith$Reader", name := "readField", desc := "(Z)Z" } : Jvm.MethodName)) ∈ TB := TB_mem 536 (by decide +kernel) (by decide +kernel)
set_option maxRecDepth 20000 in
theorem tb537 : (Jvm.Cond.code ({ cls := "InvoiceSmith$Reader", name := "readField", desc := "(Z)Z" } : Jvm.MethodName) prog_7_method_8_code (5 : Nat) (Option.some Jvm.ClassFile.FieldType.boolean)) ∈ TB := TB_mem 537 (by decide +kernel) (by decide +kernel)
set_option maxRecDepth 20000 in
theorem tn538 : (Jvm.Cond.methodLinkNest "InvoiceSmith" (108 : Nat) ({ cls := "InvoiceSmith$Form", name := "<init>", desc := "()V" } : Jvm.MethodName) "InvoiceSmith") ∈ TN := TN_mem 538 (by decide +kernel) (by decide +kernel)
set_option maxRecDepth 20000 in
theorem tn539 : (Jvm.Cond.methodLinkNest "InvoiceSmith" (109 : Nat) ({ cls := "InvoiceSmith$Reader", name := "handOver", desc := "(LInvoiceSmith$Form;)LInvoiceSmith$Form;" } : Jvm.MethodName) "InvoiceSmith") ∈ TN := TN_mem 539 (by decide +kernel) (by decide +kernel)
set_option maxRecDepth 20000 in
theorem tb541 : (Jvm.Cond.instanceMethod ({ cls := "InvoiceSmith$Reader", name := "handOver", desc := "(LInvoiceSmith$Form;)LInvoiceSmith$Form;" } : Jvm.MethodName)) ∈ TB := TB_mem 541 (by decide +kernel) (by decide +kernel)
set_option maxRecDepth 20000 in
theorem tb542 : (Jvm.Cond.code ({ cls := "InvoiceSmith$Reader", name := "handOver", desc := "(LInvoiceSmith$Form;)LInvoiceSmith$Form;" } : Jvm.MethodName) prog_7_method_3_code (3 : Nat) (Option.some (Jvm.ClassFile.FieldType.object "InvoiceSmith$Form"))) ∈ TB := TB_mem 542 (by decide +kernel) (by decide +kernel)
set_option maxRecDepth 20000 in
theorem tb543 : (Jvm.Cond.methodLink "InvoiceSmithLaw" (67 : Nat) ({ cls := "InvoiceSmith", name := "pass", desc := "(I)I" } : Jvm.MethodName)) ∈ TB := TB_mem 543 (by decide +kernel) (by decide +kernel)
set_option maxRecDepth 20000 in
theorem tb544 : (Jvm.Cond.instanceMethod ({ cls := "InvoiceSmith", name := "pass", desc := "(I)I" } : Jvm.MethodName)) ∈ TB := TB_mem 544 (by decide +kernel) (by decide +kernel)
set_option maxRecDepth 20000 in
theorem tb545 : (Jvm.Cond.selects "InvoiceSmith" ({ cls := "InvoiceSmith", name := "pass", desc := "(I)I" } : Jvm.MethodName) ({ cls := "InvoiceSmith", name := "pass", desc := "(I)I" } : Jvm.MethodName)) ∈ TB := TB_mem 545 (by decide +kernel) (by decide +kernel)
set_option maxRecDepth 20000 in
theorem tb546 : (Jvm.Cond.code ({ cls := "InvoiceSmith", name := "pass", desc := "(I)I" } : Jvm.MethodName) prog_1_method_4_code (2 : Nat) (Option.some Jvm.ClassFile.FieldType.int)) ∈ TB := TB_mem 546 (by decide +kernel) (by decide +kernel)
set_option maxRecDepth 20000 in
theorem tb547 : (Jvm.Cond.classLink "InvoiceSmith" (74 : Nat) "java/lang/IllegalArgumentException") ∈ TB := TB_mem 547 (by decide +kernel) (by decide +kernel)
set_option maxRecDepth 20000 in
theorem tb548 : (Jvm.Cond.instantiable "java/lang/IllegalArgumentException" (6 : Nat)) ∈ TB := TB_mem 548 (by decide +kernel) (by decide +kernel)
set_option maxRecDepth 20000 in
theorem tn549 : (Jvm.Cond.castable "java/lang/IllegalArgumentException" "java/lang/IllegalArgumentException") ∈ TN := TN_mem 549 (by decide +kernel) (by decide +kernel)
set_option maxRecDepth 20000 in
theorem tb550 : (Jvm.Cond.selects "java/lang/IllegalArgumentException" ({ cls := "java/lang/Throwable", name := "fillInStackTrace", desc := "(I)Ljava/lang/Throwable;" } : Jvm.MethodName) ({ cls := "java/lang/Throwable", name := "fillInStackTrace", desc := "(I)Ljava/lang/Throwable;" } : Jvm.MethodName)) ∈ TB := TB_mem 550 (by decide +kernel) (by decide +kernel)
set_option maxRecDepth 20000 in
theorem tb557 : (Jvm.Cond.methodLink "InvoiceSmith" (78 : Nat) ({ cls := "java/lang/IllegalArgumentException", name := "<init>", desc := "(Ljava/lang/String;)V" } : Jvm.MethodName)) ∈ TB := TB_mem 557 (by decide +kernel) (by decide +kernel)
set_option maxRecDepth 20000 in
theorem tb558 : (Jvm.Cond.instanceMethod ({ cls := "java/lang/IllegalArgumentException", name := "<init>", desc := "(Ljava/lang/String;)V" } : Jvm.MethodName)) ∈ TB := TB_mem 558 (by decide +kernel) (by decide +kernel)
set_option maxRecDepth 20000 in
theorem tb559 : (Jvm.Cond.code ({ cls := "java/lang/IllegalArgumentException", name := "<init>", desc := "(Ljava/lang/String;)V" } : Jvm.MethodName) prog_13_method_2_code (2 : Nat) (Option.none : Option Jvm.ClassFile.FieldType)) ∈ TB := TB_mem 559 (by decide +kernel) (by decide +kernel)
set_option maxRecDepth 20000 in
theorem tb560 : (Jvm.Cond.methodLink "java/lang/IllegalArgumentException" (7 : Nat) ({ cls := "java/lang/RuntimeException", name := "<init>", desc := "(Ljava/lang/String;)V" } : Jvm.MethodName)) ∈ TB := TB_mem 560 (by decide +kernel) (by decide +kernel)
