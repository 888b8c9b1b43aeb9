set_option maxRecDepth 20000 in
theorem tb557 : (Jvm.Cond.methodLink "java/lang/StringUTF16" (96 : Nat) ({ cls := "java/lang/StringUTF16", name := "checkBoundsBeginEnd", desc := "(II[B)V" } : Jvm.MethodName)) ∈ TB := TB_mem 557 (by decide +kernel) (by decide +kernel)
set_option maxRecDepth 20000 in
theorem tb558 : (Jvm.Cond.static ({ cls := "java/lang/StringUTF16", name := "checkBoundsBeginEnd", desc := "(II[B)V" } : Jvm.MethodName)) ∈ TB := TB_mem 558 (by decide +kernel) (by decide +kernel)
set_option maxRecDepth 20000 in
theorem tb559 : (Jvm.Cond.code ({ cls := "java/lang/StringUTF16", name := "checkBoundsBeginEnd", desc := "(II[B)V" } : Jvm.MethodName) prog_20_method_93_code (3 : Nat) (Option.none : Option Jvm.ClassFile.FieldType)) ∈ TB := TB_mem 559 (by decide +kernel) (by decide +kernel)
set_option maxRecDepth 20000 in
theorem tb560 : (Jvm.Cond.methodLink "java/lang/StringUTF16" (48 : Nat) ({ cls := "java/lang/StringUTF16", name := "length", desc := "([B)I" } : Jvm.MethodName)) ∈ TB := TB_mem 560 (by decide +kernel) (by decide +kernel)
set_option maxRecDepth 20000 in
theorem tb561 : (Jvm.Cond.static ({ cls := "java/lang/StringUTF16", name := "length", desc := "([B)I" } : Jvm.MethodName)) ∈ TB := TB_mem 561 (by decide +kernel) (by decide +kernel)
set_option maxRecDepth 20000 in
theorem tb562 : (Jvm.Cond.code ({ cls := "java/lang/StringUTF16", name := "length", desc := "([B)I" } : Jvm.MethodName) prog_20_method_6_code (1 : Nat) (Option.some Jvm.ClassFile.FieldType.int)) ∈ TB := TB_mem 562 (by decide +kernel) (by decide +kernel)
set_option maxRecDepth 20000 in
theorem tb563 : (Jvm.Cond.methodLink "java/lang/StringUTF16" (241 : Nat) ({ cls := "java/lang/String", name := "checkBoundsBeginEnd", desc := "(III)V" } : Jvm.MethodName)) ∈ TB := TB_mem 563 (by decide +kernel) (by decide +kernel)
set_option maxRecDepth 20000 in
theorem tb564 : (Jvm.Cond.static ({ cls := "java/lang/String", name := "checkBoundsBeginEnd", desc := "(III)V" } : Jvm.MethodName)) ∈ TB := TB_mem 564 (by decide +kernel) (by decide +kernel)
set_option maxRecDepth 20000 in
theorem tb565 : (Jvm.Cond.code ({ cls := "java/lang/String", name := "checkBoundsBeginEnd", desc := "(III)V" } : Jvm.MethodName) prog_18_method_158_code (3 : Nat) (Option.none : Option Jvm.ClassFile.FieldType)) ∈ TB := TB_mem 565 (by decide +kernel) (by decide +kernel)
set_option maxRecDepth 20000 in
theorem tb566 : (Jvm.Cond.fieldLink "java/lang/String" (1053 : Nat) "jdk/internal/util/Preconditions" "SIOOBE_FORMATTER" "Ljava/util/function/BiFunction;") ∈ TB := TB_mem 566 (by decide +kernel) (by decide +kernel)
set_option maxRecDepth 20000 in
theorem tb568 : (Jvm.Cond.methodLink "java/lang/String" (1062 : Nat) ({ cls := "jdk/internal/util/Preconditions", name := "checkFromToIndex", desc := "(IIILjava/util/function/BiFunction;)I" } : Jvm.MethodName)) ∈ TB := TB_mem 568 (by decide +kernel) (by decide +kernel)
set_option maxRecDepth 20000 in
theorem tb569 : (Jvm.Cond.static ({ cls := "jdk/internal/util/Preconditions", name := "checkFromToIndex", desc := "(IIILjava/util/function/BiFunction;)I" } : Jvm.MethodName)) ∈ TB := TB_mem 569 (by decide +kernel) (by decide +kernel)
set_option maxRecDepth 20000 in
theorem tb570 : (Jvm.Cond.code ({ cls := "jdk/internal/util/Preconditions", name := "checkFromToIndex", desc := "(IIILjava/util/function/BiFunction;)I" } : Jvm.MethodName) prog_22_method_12_code (4 : Nat) (Option.some Jvm.ClassFile.FieldType.int)) ∈ TB := TB_mem 570 (by decide +kernel) (by decide +kernel)
set_option maxRecDepth 20000 in
theorem tb571 : (Jvm.Cond.methodLink "java/lang/StringUTF16" (244 : Nat) ({ cls := "java/lang/StringUTF16", name := "indexOfCharUnsafe", desc := "([BIII)I" } : Jvm.MethodName)) ∈ TB := TB_mem 571 (by decide +kernel) (by decide +kernel)
set_option maxRecDepth 20000 in
theorem tb572 : (Jvm.Cond.static ({ cls := "java/lang/StringUTF16", name := "indexOfCharUnsafe", desc := "([BIII)I" } : Jvm.MethodName)) ∈ TB := TB_mem 572 (by decide +kernel) (by decide +kernel)
set_option maxRecDepth 20000 in
theorem tb573 : (Jvm.Cond.code ({ cls := "java/lang/StringUTF16", name := "indexOfCharUnsafe", desc := "([BIII)I" } : Jvm.MethodName) prog_20_method_48_code (5 : Nat) (Option.some Jvm.ClassFile.FieldType.int)) ∈ TB := TB_mem 573 (by decide +kernel) (by decide +kernel)
set_option maxRecDepth 20000 in
theorem tb574 : (Jvm.Cond.methodLink "java/lang/StringUTF16" (71 : Nat) ({ cls := "java/lang/StringUTF16", name := "getChar", desc := "([BI)C" } : Jvm.MethodName)) ∈ TB := TB_mem 574 (by decide +kernel) (by decide +kernel)
set_option maxRecDepth 20000 in
theorem tb575 : (Jvm.Cond.static ({ cls := "java/lang/StringUTF16", name := "getChar", desc := "([BI)C" } : Jvm.MethodName)) ∈ TB := TB_mem 575 (by decide +kernel) (by decide +kernel)
set_option maxRecDepth 20000 in
theorem tb576 : (Jvm.Cond.code ({ cls := "java/lang/StringUTF16", name := "getChar", desc := "([BI)C" } : Jvm.MethodName) prog_20_method_5_code (2 : Nat) (Option.some Jvm.ClassFile.FieldType.char)) ∈ TB := TB_mem 576 (by decide +kernel) (by decide +kernel)
set_option maxRecDepth 20000 in
theorem tb577 : (Jvm.Cond.fieldLink "java/lang/StringUTF16" (44 : Nat) "java/lang/StringUTF16" "$assertionsDisabled" "Z") ∈ TB := TB_mem 577 (by decide +kernel) (by decide +kernel)
set_option maxRecDepth 20000 in
theorem tb579 : (Jvm.Cond.fieldLink "java/lang/StringUTF16" (59 : Nat) "java/lang/StringUTF16" "HI_BYTE_SHIFT" "I") ∈ TB := TB_mem 579 (by decide +kernel) (by decide +kernel)
set_option maxRecDepth 20000 in
theorem tb581 : (Jvm.Cond.fieldLink "java/lang/StringUTF16" (63 : Nat) "java/lang/StringUTF16" "LO_BYTE_SHIFT" "I") ∈ TB := TB_mem 581 (by decide +kernel) (by decide +kernel)
set_option maxRecDepth 20000 in
theorem tb583 : (Jvm.Cond.methodLink "java/lang/StringUTF16" (232 : Nat) ({ cls := "java/lang/StringUTF16", name := "indexOfSupplementary", desc := "([BIII)I" } : Jvm.MethodName)) ∈ TB := TB_mem 583 (by decide +kernel) (by decide +kernel)
set_option maxRecDepth 20000 in
theorem tb584 : (Jvm.Cond.static ({ cls := "java/lang/StringUTF16", name := "indexOfSupplementary", desc := "([BIII)I" } : Jvm.MethodName)) ∈ TB := TB_mem 584 (by decide +kernel) (by decide +kernel)
set_option maxRecDepth 20000 in
theorem tb585 : (Jvm.Cond.code ({ cls := "java/lang/StringUTF16", name := "indexOfSupplementary", desc := "([BIII)I" } : Jvm.MethodName) prog_20_method_49_code (7 : Nat) (Option.some Jvm.ClassFile.FieldType.int)) ∈ TB := TB_mem 585 (by decide +kernel) (by decide +kernel)
set_option maxRecDepth 20000 in
theorem tb586 : (Jvm.Cond.methodLink "java/lang/StringUTF16" (164 : Nat) ({ cls := "java/lang/Character", name := "isValidCodePoint", desc := "(I)Z" } : Jvm.MethodName)) ∈ TB := TB_mem 586 (by decide +kernel) (by decide +kernel)
set_option maxRecDepth 20000 in
theorem tb587 : (Jvm.Cond.static ({ cls := "java/lang/Character", name := "isValidCodePoint", desc := "(I)Z" } : Jvm.MethodName)) ∈ TB := TB_mem 587 (by decide +kernel) (by decide +kernel)
set_option maxRecDepth 20000 in
theorem tb588 : (Jvm.Cond.code ({ cls := "java/lang/Character", name := "isValidCodePoint", desc := "(I)Z" } : Jvm.MethodName) prog_11_method_11_code (2 : Nat) (Option.some Jvm.ClassFile.FieldType.boolean)) ∈ TB := TB_mem 588 (by decide +kernel) (by decide +kernel)
set_option maxRecDepth 20000 in
theorem tb589 : (Jvm.Cond.methodLink "java/lang/StringUTF16" (157 : Nat) ({ cls := "java/lang/Character", name := "highSurrogate", desc := "(I)C" } : Jvm.MethodName)) ∈ TB := TB_mem 589 (by decide +kernel) (by decide +kernel)
set_option maxRecDepth 20000 in
theorem tb590 : (Jvm.Cond.static ({ cls := "java/lang/Character", name := "highSurrogate", desc := "(I)C" } : Jvm.MethodName)) ∈ TB := TB_mem 590 (by decide +kernel) (by decide +kernel)
set_option maxRecDepth 20000 in
theorem tb591 : (Jvm.Cond.code ({ cls := "java/lang/Character", name := "highSurrogate", desc := "(I)C" } : Jvm.MethodName) prog_11_method_28_code (1 : Nat) (Option.some Jvm.ClassFile.FieldType.char)) ∈ TB := TB_mem 591 (by decide +kernel) (by decide +kernel)
set_option maxRecDepth 20000 in
theorem tb592 : (Jvm.Cond.constant "java/lang/Character" (110 : Nat) (55232 : Int32)) ∈ TB := TB_mem 592 (by decide +kernel) (by decide +kernel)
set_option maxRecDepth 20000 in
theorem tb593 : (Jvm.Cond.methodLink "java/lang/StringUTF16" (161 : Nat) ({ cls := "java/lang/Character", name := "lowSurrogate", desc := "(I)C" } : Jvm.MethodName)) ∈ TB := TB_mem 593 (by decide +kernel) (by decide +kernel)
set_option maxRecDepth 20000 in
theorem tb594 : (Jvm.Cond.static ({ cls := "java/lang/Character", name := "lowSurrogate", desc := "(I)C" } : Jvm.MethodName)) ∈ TB := TB_mem 594 (by decide +kernel) (by decide +kernel)
set_option maxRecDepth 20000 in
theorem tb595 : (Jvm.Cond.code ({ cls := "java/lang/Character", name := "lowSurrogate", desc := "(I)C" } : Jvm.MethodName) prog_11_method_29_code (1 : Nat) (Option.some Jvm.ClassFile.FieldType.char)) ∈ TB := TB_mem 595 (by decide +kernel) (by decide +kernel)
set_option maxRecDepth 20000 in
theorem tb596 : (Jvm.Cond.constant "java/lang/Character" (76 : Nat) (56320 : Int32)) ∈ TB := TB_mem 596 (by decide +kernel) (by decide +kernel)
set_option maxRecDepth 20000 in
theorem tb598 : (Jvm.Cond.methodLink "InvoiceSmith$Reader" (82 : Nat) ({ cls := "InvoiceSmith$Reader", name := "isDigit", desc := "(C)Z" } : Jvm.MethodName)) ∈ TB := TB_mem 598 (by decide +kernel) (by decide +kernel)
set_option maxRecDepth 20000 in
theorem tb599 : (Jvm.Cond.static ({ cls := "InvoiceSmith$Reader", name := "isDigit", desc := "(C)Z" } : Jvm.MethodName)) ∈ TB := TB_mem 599 (by decide +kernel) (by decide +kernel)
set_option maxRecDepth 20000 in
theorem tb600 : (Jvm.Cond.code ({ cls := "InvoiceSmith$Reader", name := "isDigit", desc := "(C)Z" } : Jvm.MethodName) prog_7_method_12_code (1 : Nat) (Option.some Jvm.ClassFile.FieldType.boolean)) ∈ TB := TB_mem 600 (by decide +kernel) (by decide +kernel)
set_option maxRecDepth 20000 in
theorem tb601 : (Jvm.Cond.methodLink "InvoiceSmith$Reader" (67 : Nat) ({ cls := "InvoiceSmith$Reader", name := "skip", desc := "(C)Z" } : Jvm.MethodName)) ∈ TB := TB_mem 601 (by decide +kernel) (by decide +kernel)
set_option maxRecDepth 20000 in
theorem tb603 : (Jvm.Cond.instanceMethod ({ cls := "InvoiceSmith$Reader", name := "skip", desc := "(C)Z" } : Jvm.MethodName)) ∈ TB := TB_mem 603 (by decide +kernel) (by decide +kernel)
set_option maxRecDepth 20000 in
theorem tb604 : (Jvm.Cond.code ({ cls := "InvoiceSmith$Reader", name := "skip", desc := "(C)Z" } : Jvm.MethodName) prog_7_method_13_code (3 : Nat) (Option.some Jvm.ClassFile.FieldType.boolean)) ∈ TB := TB_mem 604 (by decide +kernel) (by decide +kernel)
set_option maxRecDepth 20000 in
theorem tn605 : (Jvm.Cond.methodLinkNest "InvoiceSmith$Reader" (71 : Nat) ({ cls := "InvoiceSmith$Form", name := "aimHere", desc := "(I)V" } : Jvm.MethodName) "InvoiceSmith") ∈ TN := TN_mem 605 (by decide +kernel) (by decide +kernel)
set_option maxRecDepth 20000 in
theorem tb607 : (Jvm.Cond.instanceMethod ({ cls := "InvoiceSmith$Form", name := "aimHere", desc := "(I)V" } : Jvm.MethodName)) ∈ TB := TB_mem 607 (by decide +kernel) (by decide +kernel)
set_option maxRecDepth 20000 in
theorem tb608 : (Jvm.Cond.code ({ cls := "InvoiceSmith$Form", name := "aimHere", desc := "(I)V" } : Jvm.MethodName) prog_3_method_3_code (2 : Nat) (Option.none : Option Jvm.ClassFile.FieldType)) ∈ TB := TB_mem 608 (by decide +kernel) (by decide +kernel)
set_option maxRecDepth 20000 in
theorem tb609 : (Jvm.Cond.methodLink "InvoiceSmith$Reader" (60 : Nat) ({ cls := "InvoiceSmith$Reader", name := "readField", desc := "(Z)Z" } : Jvm.MethodName)) ∈ TB := TB_mem 609 (by decide +kernel) (by decide +kernel)
set_option maxRecDepth 20000 in
theorem tb611 : (Jvm.Cond.instanceMethod ({ cls := "InvoiceSmith$Reader", name := "readField", desc := "(Z)Z" } : Jvm.MethodName)) ∈ TB := TB_mem 611 (by decide +kernel) (by decide +kernel)
set_option maxRecDepth 20000 in
theorem tb612 : (Jvm.Cond.code ({ cls := "InvoiceSmith$Reader", name := "readField", desc := "(Z)Z" } : Jvm.MethodName) prog_7_method_8_code (5 : Nat) (Option.some Jvm.ClassFile.FieldType.boolean)) ∈ TB := TB_mem 612 (by decide +kernel) (by decide +kernel)
set_option maxRecDepth 20000 in
theorem tn613 : (Jvm.Cond.methodLinkNest "InvoiceSmith" (108 : Nat) ({ cls := "InvoiceSmith$Form", name := "<init>", desc := "()V" } : Jvm.MethodName) "InvoiceSmith") ∈ TN := TN_mem 613 (by decide +kernel) (by decide +kernel)
set_option maxRecDepth 20000 in
theorem tn614 : (Jvm.Cond.methodLinkNest "InvoiceSmith" (109 : Nat) ({ cls := "InvoiceSmith$Reader", name := "handOver", desc := "(LInvoiceSmith$Form;)LInvoiceSmith$Form;" } : Jvm.MethodName) "InvoiceSmith") ∈ TN := TN_mem 614 (by decide +kernel) (by decide +kernel)
set_option maxRecDepth 20000 in
theorem tb616 : (Jvm.Cond.instanceMethod ({ cls := "InvoiceSmith$Reader", name := "handOver", desc := "(LInvoiceSmith$Form;)LInvoiceSmith$Form;" } : Jvm.MethodName)) ∈ TB := TB_mem 616 (by decide +kernel) (by decide +kernel)
set_option maxRecDepth 20000 in
theorem tb617 : (Jvm.Cond.code ({ cls := "InvoiceSmith$Reader", name := "handOver", desc := "(LInvoiceSmith$Form;)LInvoiceSmith$Form;" } : Jvm.MethodName) prog_7_method_3_code (3 : Nat) (Option.some (Jvm.ClassFile.FieldType.object "InvoiceSmith$Form"))) ∈ TB := TB_mem 617 (by decide +kernel) (by decide +kernel)
set_option maxRecDepth 20000 in
theorem tb618 : (Jvm.Cond.methodLink "InvoiceSmithLaw" (95 : Nat) ({ cls := "InvoiceSmithLaw", name := "pass", desc := "(LInvoiceSmith;I[J)I" } : Jvm.MethodName)) ∈ TB := TB_mem 618 (by decide +kernel) (by decide +kernel)
set_option maxRecDepth 20000 in
theorem tb619 : (Jvm.Cond.static ({ cls := "InvoiceSmithLaw", name := "pass", desc := "(LInvoiceSmith;I[J)I" } : Jvm.MethodName)) ∈ TB := TB_mem 619 (by decide +kernel) (by decide +kernel)
set_option maxRecDepth 20000 in
theorem tb621 : (Jvm.Cond.methodLink "InvoiceSmithLaw" (23 : Nat) ({ cls := "InvoiceSmith", name := "pass", desc := "(I)I" } : Jvm.MethodName)) ∈ TB := TB_mem 621 (by decide +kernel) (by decide +kernel)
set_option maxRecDepth 20000 in
theorem tb622 : (Jvm.Cond.instanceMethod ({ cls := "InvoiceSmith", name := "pass", desc := "(I)I" } : Jvm.MethodName)) ∈ TB := TB_mem 622 (by decide +kernel) (by decide +kernel)
set_option maxRecDepth 20000 in
theorem tb623 : (Jvm.Cond.selects "InvoiceSmith" ({ cls := "InvoiceSmith", name := "pass", desc := "(I)I" } : Jvm.MethodName) ({ cls := "InvoiceSmith", name := "pass", desc := "(I)I" } : Jvm.MethodName)) ∈ TB := TB_mem 623 (by decide +kernel) (by decide +kernel)
set_option maxRecDepth 20000 in
theorem tb624 : (Jvm.Cond.code ({ cls := "InvoiceSmith", name := "pass", desc := "(I)I" } : Jvm.MethodName) prog_1_method_4_code (2 : Nat) (Option.some Jvm.ClassFile.FieldType.int)) ∈ TB := TB_mem 624 (by decide +kernel) (by decide +kernel)
set_option maxRecDepth 20000 in
theorem tb626 : (Jvm.Cond.methodLink "InvoiceSmithLaw" (98 : Nat) ({ cls := "InvoiceSmithLaw", name := "rate", desc := "(LInvoiceSmith;IIII[J)I" } : Jvm.MethodName)) ∈ TB := TB_mem 626 (by decide +kernel) (by decide +kernel)
set_option maxRecDepth 20000 in
theorem tb627 : (Jvm.Cond.static ({ cls := "InvoiceSmithLaw", name := "rate", desc := "(LInvoiceSmith;IIII[J)I" } : Jvm.MethodName)) ∈ TB := TB_mem 627 (by decide +kernel) (by decide +kernel)
set_option maxRecDepth 20000 in
theorem tb629 : (Jvm.Cond.methodLink "InvoiceSmithLaw" (26 : Nat) ({ cls := "InvoiceSmith", name := "rate", desc := "(IIII)I" } : Jvm.MethodName)) ∈ TB := TB_mem 629 (by decide +kernel) (by decide +kernel)
set_option maxRecDepth 20000 in
theorem tb630 : (Jvm.Cond.instanceMethod ({ cls := "InvoiceSmith", name := "rate", desc := "(IIII)I" } : Jvm.MethodName)) ∈ TB := TB_mem 630 (by decide +kernel) (by decide +kernel)
set_option maxRecDepth 20000 in
theorem tb631 : (Jvm.Cond.selects "InvoiceSmith" ({ cls := "InvoiceSmith", name := "rate", desc := "(IIII)I" } : Jvm.MethodName) ({ cls := "InvoiceSmith", name := "rate", desc := "(IIII)I" } : Jvm.MethodName)) ∈ TB := TB_mem 631 (by decide +kernel) (by decide +kernel)
set_option maxRecDepth 20000 in
theorem tb632 : (Jvm.Cond.code ({ cls := "InvoiceSmith", name := "rate", desc := "(IIII)I" } : Jvm.MethodName) prog_1_method_5_code (5 : Nat) (Option.some Jvm.ClassFile.FieldType.int)) ∈ TB := TB_mem 632 (by decide +kernel) (by decide +kernel)
set_option maxRecDepth 20000 in
theorem tb633 : (Jvm.Cond.methodLink "InvoiceSmith" (118 : Nat) ({ cls := "InvoiceSmith", name := "checkPlace", desc := "(I)V" } : Jvm.MethodName)) ∈ TB := TB_mem 633 (by decide +kernel) (by decide +kernel)
set_option maxRecDepth 20000 in
theorem tb634 : (Jvm.Cond.static ({ cls := "InvoiceSmith", name := "checkPlace", desc := "(I)V" } : Jvm.MethodName)) ∈ TB := TB_mem 634 (by decide +kernel) (by decide +kernel)
set_option maxRecDepth 20000 in
theorem tb635 : (Jvm.Cond.code ({ cls := "InvoiceSmith", name := "checkPlace", desc := "(I)V" } : Jvm.MethodName) prog_1_method_21_code (1 : Nat) (Option.none : Option Jvm.ClassFile.FieldType)) ∈ TB := TB_mem 635 (by decide +kernel) (by decide +kernel)
set_option maxRecDepth 20000 in
theorem tb637 : (Jvm.Cond.methodLink "InvoiceSmith" (122 : Nat) ({ cls := "InvoiceSmith", name := "checkKind", desc := "(I)V" } : Jvm.MethodName)) ∈ TB := TB_mem 637 (by decide +kernel) (by decide +kernel)
set_option maxRecDepth 20000 in
theorem tb638 : (Jvm.Cond.static ({ cls := "InvoiceSmith", name := "checkKind", desc := "(I)V" } : Jvm.MethodName)) ∈ TB := TB_mem 638 (by decide +kernel) (by decide +kernel)
set_option maxRecDepth 20000 in
theorem tb639 : (Jvm.Cond.code ({ cls := "InvoiceSmith", name := "checkKind", desc := "(I)V" } : Jvm.MethodName) prog_1_method_22_code (1 : Nat) (Option.none : Option Jvm.ClassFile.FieldType)) ∈ TB := TB_mem 639 (by decide +kernel) (by decide +kernel)
set_option maxRecDepth 20000 in
theorem tn643 : (Jvm.Cond.methodLinkNest "InvoiceSmith" (132 : Nat) ({ cls := "InvoiceSmith$Rates", name := "tell", desc := "(IIII)I" } : Jvm.MethodName) "InvoiceSmith") ∈ TN := TN_mem 643 (by decide +kernel) (by decide +kernel)
set_option maxRecDepth 20000 in
theorem tb645 : (Jvm.Cond.instanceMethod ({ cls := "InvoiceSmith$Rates", name := "tell", desc := "(IIII)I" } : Jvm.MethodName)) ∈ TB := TB_mem 645 (by decide +kernel) (by decide +kernel)
set_option maxRecDepth 20000 in
theorem tb646 : (Jvm.Cond.code ({ cls := "InvoiceSmith$Rates", name := "tell", desc := "(IIII)I" } : Jvm.MethodName) prog_6_method_2_code (6 : Nat) (Option.some Jvm.ClassFile.FieldType.int)) ∈ TB := TB_mem 646 (by decide +kernel) (by decide +kernel)
set_option maxRecDepth 20000 in
theorem tn647 : (Jvm.Cond.methodLinkNest "InvoiceSmith$Rates" (28 : Nat) ({ cls := "InvoiceSmith", name := "set", desc := "([III)V" } : Jvm.MethodName) "InvoiceSmith") ∈ TN := TN_mem 647 (by decide +kernel) (by decide +kernel)
set_option maxRecDepth 20000 in
theorem tb648 : (Jvm.Cond.methodLink "InvoiceSmithLaw" (102 : Nat) ({ cls := "InvoiceSmithLaw", name := "telling", desc := "(LInvoiceSmith;III[J)I" } : Jvm.MethodName)) ∈ TB := TB_mem 648 (by decide +kernel) (by decide +kernel)
set_option maxRecDepth 20000 in
theorem tb649 : (Jvm.Cond.static ({ cls := "InvoiceSmithLaw", name := "telling", desc := "(LInvoiceSmith;III[J)I" } : Jvm.MethodName)) ∈ TB := TB_mem 649 (by decide +kernel) (by decide +kernel)
set_option maxRecDepth 20000 in
theorem tb651 : (Jvm.Cond.methodLink "InvoiceSmithLaw" (30 : Nat) ({ cls := "InvoiceSmith", name := "telling", desc := "(III)I" } : Jvm.MethodName)) ∈ TB := TB_mem 651 (by decide +kernel) (by decide +kernel)
set_option maxRecDepth 20000 in
theorem tb652 : (Jvm.Cond.instanceMethod ({ cls := "InvoiceSmith", name := "telling", desc := "(III)I" } : Jvm.MethodName)) ∈ TB := TB_mem 652 (by decide +kernel) (by decide +kernel)
set_option maxRecDepth 20000 in
theorem tb653 : (Jvm.Cond.selects "InvoiceSmith" ({ cls := "InvoiceSmith", name := "telling", desc := "(III)I" } : Jvm.MethodName) ({ cls := "InvoiceSmith", name := "telling", desc := "(III)I" } : Jvm.MethodName)) ∈ TB := TB_mem 653 (by decide +kernel) (by decide +kernel)
set_option maxRecDepth 20000 in
theorem tb654 : (Jvm.Cond.code ({ cls := "InvoiceSmith", name := "telling", desc := "(III)I" } : Jvm.MethodName) prog_1_method_6_code (4 : Nat) (Option.some Jvm.ClassFile.FieldType.int)) ∈ TB := TB_mem 654 (by decide +kernel) (by decide +kernel)
set_option maxRecDepth 20000 in
theorem tn656 : (Jvm.Cond.methodLinkNest "InvoiceSmith" (138 : Nat) ({ cls := "InvoiceSmith$Rates", name := "known", desc := "(III)I" } : Jvm.MethodName) "InvoiceSmith") ∈ TN := TN_mem 656 (by decide +kernel) (by decide +kernel)
set_option maxRecDepth 20000 in
theorem tb658 : (Jvm.Cond.instanceMethod ({ cls := "InvoiceSmith$Rates", name := "known", desc := "(III)I" } : Jvm.MethodName)) ∈ TB := TB_mem 658 (by decide +kernel) (by decide +kernel)
set_option maxRecDepth 20000 in
theorem tb659 : (Jvm.Cond.code ({ cls := "InvoiceSmith$Rates", name := "known", desc := "(III)I" } : Jvm.MethodName) prog_6_method_3_code (8 : Nat) (Option.some Jvm.ClassFile.FieldType.int)) ∈ TB := TB_mem 659 (by decide +kernel) (by decide +kernel)
set_option maxRecDepth 20000 in
theorem tn660 : (Jvm.Cond.methodLinkNest "InvoiceSmith$Rates" (32 : Nat) ({ cls := "InvoiceSmith", name := "get", desc := "([II)I" } : Jvm.MethodName) "InvoiceSmith") ∈ TN := TN_mem 660 (by decide +kernel) (by decide +kernel)
set_option maxRecDepth 20000 in
theorem tb661 : (Jvm.Cond.methodLink "InvoiceSmithLaw" (106 : Nat) ({ cls := "InvoiceSmithLaw", name := "round", desc := "(LInvoiceSmith;II[J)I" } : Jvm.MethodName)) ∈ TB := TB_mem 661 (by decide +kernel) (by decide +kernel)
set_option maxRecDepth 20000 in
theorem tb662 : (Jvm.Cond.static ({ cls := "InvoiceSmithLaw", name := "round", desc := "(LInvoiceSmith;II[J)I" } : Jvm.MethodName)) ∈ TB := TB_mem 662 (by decide +kernel) (by decide +kernel)
set_option maxRecDepth 20000 in
theorem tb664 : (Jvm.Cond.methodLink "InvoiceSmithLaw" (34 : Nat) ({ cls := "InvoiceSmith", name := "round", desc := "(II)I" } : Jvm.MethodName)) ∈ TB := TB_mem 664 (by decide +kernel) (by decide +kernel)
set_option maxRecDepth 20000 in
theorem tb665 : (Jvm.Cond.instanceMethod ({ cls := "InvoiceSmith", name := "round", desc := "(II)I" } : Jvm.MethodName)) ∈ TB := TB_mem 665 (by decide +kernel) (by decide +kernel)
set_option maxRecDepth 20000 in
theorem tb666 : (Jvm.Cond.selects "InvoiceSmith" ({ cls := "InvoiceSmith", name := "round", desc := "(II)I" } : Jvm.MethodName) ({ cls := "InvoiceSmith", name := "round", desc := "(II)I" } : Jvm.MethodName)) ∈ TB := TB_mem 666 (by decide +kernel) (by decide +kernel)
set_option maxRecDepth 20000 in
theorem tb667 : (Jvm.Cond.code ({ cls := "InvoiceSmith", name := "round", desc := "(II)I" } : Jvm.MethodName) prog_1_method_7_code (4 : Nat) (Option.some Jvm.ClassFile.FieldType.int)) ∈ TB := TB_mem 667 (by decide +kernel) (by decide +kernel)
set_option maxRecDepth 20000 in
theorem tb669 : (Jvm.Cond.methodLink "InvoiceSmith" (144 : Nat) ({ cls := "InvoiceSmith", name := "get", desc := "([II)I" } : Jvm.MethodName)) ∈ TB := TB_mem 669 (by decide +kernel) (by decide +kernel)
set_option maxRecDepth 20000 in
theorem tb670 : (Jvm.Cond.methodLink "InvoiceSmith" (148 : Nat) ({ cls := "InvoiceSmith", name := "set", desc := "([III)V" } : Jvm.MethodName)) ∈ TB := TB_mem 670 (by decide +kernel) (by decide +kernel)
set_option maxRecDepth 20000 in
theorem tb671 : (Jvm.Cond.methodLink "InvoiceSmithLaw" (110 : Nat) ({ cls := "InvoiceSmithLaw", name := "client", desc := "(LInvoiceSmith;II[J)I" } : Jvm.MethodName)) ∈ TB := TB_mem 671 (by decide +kernel) (by decide +kernel)
set_option maxRecDepth 20000 in
theorem tb672 : (Jvm.Cond.static ({ cls := "InvoiceSmithLaw", name := "client", desc := "(LInvoiceSmith;II[J)I" } : Jvm.MethodName)) ∈ TB := TB_mem 672 (by decide +kernel) (by decide +kernel)
set_option maxRecDepth 20000 in
theorem tb674 : (Jvm.Cond.methodLink "InvoiceSmithLaw" (38 : Nat) ({ cls := "InvoiceSmith", name := "client", desc := "(II)I" } : Jvm.MethodName)) ∈ TB := TB_mem 674 (by decide +kernel) (by decide +kernel)
set_option maxRecDepth 20000 in
theorem tb675 : (Jvm.Cond.instanceMethod ({ cls := "InvoiceSmith", name := "client", desc := "(II)I" } : Jvm.MethodName)) ∈ TB := TB_mem 675 (by decide +kernel) (by decide +kernel)
set_option maxRecDepth 20000 in
theorem tb676 : (Jvm.Cond.selects "InvoiceSmith" ({ cls := "InvoiceSmith", name := "client", desc := "(II)I" } : Jvm.MethodName) ({ cls := "InvoiceSmith", name := "client", desc := "(II)I" } : Jvm.MethodName)) ∈ TB := TB_mem 676 (by decide +kernel) (by decide +kernel)
set_option maxRecDepth 20000 in
theorem tb677 : (Jvm.Cond.code ({ cls := "InvoiceSmith", name := "client", desc := "(II)I" } : Jvm.MethodName) prog_1_method_8_code (4 : Nat) (Option.some Jvm.ClassFile.FieldType.int)) ∈ TB := TB_mem 677 (by decide +kernel) (by decide +kernel)
set_option maxRecDepth 20000 in
theorem tb678 : (Jvm.Cond.methodLink "InvoiceSmith" (152 : Nat) ({ cls := "InvoiceSmith", name := "checkClient", desc := "(I)V" } : Jvm.MethodName)) ∈ TB := TB_mem 678 (by decide +kernel) (by decide +kernel)
set_option maxRecDepth 20000 in
theorem tb679 : (Jvm.Cond.static ({ cls := "InvoiceSmith", name := "checkClient", desc := "(I)V" } : Jvm.MethodName)) ∈ TB := TB_mem 679 (by decide +kernel) (by decide +kernel)
set_option maxRecDepth 20000 in
theorem tb680 : (Jvm.Cond.code ({ cls := "InvoiceSmith", name := "checkClient", desc := "(I)V" } : Jvm.MethodName) prog_1_method_23_code (1 : Nat) (Option.none : Option Jvm.ClassFile.FieldType)) ∈ TB := TB_mem 680 (by decide +kernel) (by decide +kernel)
set_option maxRecDepth 20000 in
theorem tb682 : (Jvm.Cond.methodLink "InvoiceSmithLaw" (113 : Nat) ({ cls := "InvoiceSmithLaw", name := "line", desc := "(LInvoiceSmith;III[J)I" } : Jvm.MethodName)) ∈ TB := TB_mem 682 (by decide +kernel) (by decide +kernel)
set_option maxRecDepth 20000 in
theorem tb683 : (Jvm.Cond.static ({ cls := "InvoiceSmithLaw", name := "line", desc := "(LInvoiceSmith;III[J)I" } : Jvm.MethodName)) ∈ TB := TB_mem 683 (by decide +kernel) (by decide +kernel)
set_option maxRecDepth 20000 in
theorem tb685 : (Jvm.Cond.methodLink "InvoiceSmithLaw" (41 : Nat) ({ cls := "InvoiceSmith", name := "line", desc := "(III)I" } : Jvm.MethodName)) ∈ TB := TB_mem 685 (by decide +kernel) (by decide +kernel)
set_option maxRecDepth 20000 in
theorem tb686 : (Jvm.Cond.instanceMethod ({ cls := "InvoiceSmith", name := "line", desc := "(III)I" } : Jvm.MethodName)) ∈ TB := TB_mem 686 (by decide +kernel) (by decide +kernel)
set_option maxRecDepth 20000 in
theorem tb687 : (Jvm.Cond.selects "InvoiceSmith" ({ cls := "InvoiceSmith", name := "line", desc := "(III)I" } : Jvm.MethodName) ({ cls := "InvoiceSmith", name := "line", desc := "(III)I" } : Jvm.MethodName)) ∈ TB := TB_mem 687 (by decide +kernel) (by decide +kernel)
set_option maxRecDepth 20000 in
theorem tb688 : (Jvm.Cond.code ({ cls := "InvoiceSmith", name := "line", desc := "(III)I" } : Jvm.MethodName) prog_1_method_9_code (4 : Nat) (Option.some Jvm.ClassFile.FieldType.int)) ∈ TB := TB_mem 688 (by decide +kernel) (by decide +kernel)
set_option maxRecDepth 20000 in
theorem tn691 : (Jvm.Cond.methodLinkNest "InvoiceSmith" (162 : Nat) ({ cls := "InvoiceSmith$Bill", name := "addLine", desc := "(III)V" } : Jvm.MethodName) "InvoiceSmith") ∈ TN := TN_mem 691 (by decide +kernel) (by decide +kernel)
set_option maxRecDepth 20000 in
theorem tb693 : (Jvm.Cond.instanceMethod ({ cls := "InvoiceSmith$Bill", name := "addLine", desc := "(III)V" } : Jvm.MethodName)) ∈ TB := TB_mem 693 (by decide +kernel) (by decide +kernel)
set_option maxRecDepth 20000 in
theorem tb694 : (Jvm.Cond.code ({ cls := "InvoiceSmith$Bill", name := "addLine", desc := "(III)V" } : Jvm.MethodName) prog_2_method_3_code (4 : Nat) (Option.none : Option Jvm.ClassFile.FieldType)) ∈ TB := TB_mem 694 (by decide +kernel) (by decide +kernel)
set_option maxRecDepth 20000 in
theorem tn695 : (Jvm.Cond.methodLinkNest "InvoiceSmith$Bill" (31 : Nat) ({ cls := "InvoiceSmith", name := "set", desc := "([III)V" } : Jvm.MethodName) "InvoiceSmith") ∈ TN := TN_mem 695 (by decide +kernel) (by decide +kernel)
set_option maxRecDepth 20000 in
theorem tb696 : (Jvm.Cond.methodLink "InvoiceSmithLaw" (116 : Nat) ({ cls := "InvoiceSmithLaw", name := "strike", desc := "(LInvoiceSmith;I[J)I" } : Jvm.MethodName)) ∈ TB := TB_mem 696 (by decide +kernel) (by decide +kernel)
set_option maxRecDepth 20000 in
theorem tb697 : (Jvm.Cond.static ({ cls := "InvoiceSmithLaw", name := "strike", desc := "(LInvoiceSmith;I[J)I" } : Jvm.MethodName)) ∈ TB := TB_mem 697 (by decide +kernel) (by decide +kernel)
set_option maxRecDepth 20000 in
theorem tb699 : (Jvm.Cond.methodLink "InvoiceSmithLaw" (44 : Nat) ({ cls := "InvoiceSmith", name := "strike", desc := "(I)I" } : Jvm.MethodName)) ∈ TB := TB_mem 699 (by decide +kernel) (by decide +kernel)
set_option maxRecDepth 20000 in
theorem tb700 : (Jvm.Cond.instanceMethod ({ cls := "InvoiceSmith", name := "strike", desc := "(I)I" } : Jvm.MethodName)) ∈ TB := TB_mem 700 (by decide +kernel) (by decide +kernel)
set_option maxRecDepth 20000 in
theorem tb701 : (Jvm.Cond.selects "InvoiceSmith" ({ cls := "InvoiceSmith", name := "strike", desc := "(I)I" } : Jvm.MethodName) ({ cls := "InvoiceSmith", name := "strike", desc := "(I)I" } : Jvm.MethodName)) ∈ TB := TB_mem 701 (by decide +kernel) (by decide +kernel)
set_option maxRecDepth 20000 in
theorem tb702 : (Jvm.Cond.code ({ cls := "InvoiceSmith", name := "strike", desc := "(I)I" } : Jvm.MethodName) prog_1_method_10_code (2 : Nat) (Option.some Jvm.ClassFile.FieldType.int)) ∈ TB := TB_mem 702 (by decide +kernel) (by decide +kernel)
set_option maxRecDepth 20000 in
theorem tn703 : (Jvm.Cond.methodLinkNest "InvoiceSmith" (166 : Nat) ({ cls := "InvoiceSmith$Bill", name := "hasLine", desc := "(I)Z" } : Jvm.MethodName) "InvoiceSmith") ∈ TN := TN_mem 703 (by decide +kernel) (by decide +kernel)
set_option maxRecDepth 20000 in
theorem tb705 : (Jvm.Cond.instanceMethod ({ cls := "InvoiceSmith$Bill", name := "hasLine", desc := "(I)Z" } : Jvm.MethodName)) ∈ TB := TB_mem 705 (by decide +kernel) (by decide +kernel)
set_option maxRecDepth 20000 in
theorem tb706 : (Jvm.Cond.code ({ cls := "InvoiceSmith$Bill", name := "hasLine", desc := "(I)Z" } : Jvm.MethodName) prog_2_method_2_code (2 : Nat) (Option.some Jvm.ClassFile.FieldType.boolean)) ∈ TB := TB_mem 706 (by decide +kernel) (by decide +kernel)
set_option maxRecDepth 20000 in
theorem tn708 : (Jvm.Cond.methodLinkNest "InvoiceSmith" (172 : Nat) ({ cls := "InvoiceSmith$Bill", name := "removeLine", desc := "(I)V" } : Jvm.MethodName) "InvoiceSmith") ∈ TN := TN_mem 708 (by decide +kernel) (by decide +kernel)
set_option maxRecDepth 20000 in
theorem tb710 : (Jvm.Cond.instanceMethod ({ cls := "InvoiceSmith$Bill", name := "removeLine", desc := "(I)V" } : Jvm.MethodName)) ∈ TB := TB_mem 710 (by decide +kernel) (by decide +kernel)
set_option maxRecDepth 20000 in
theorem tb711 : (Jvm.Cond.code ({ cls := "InvoiceSmith$Bill", name := "removeLine", desc := "(I)V" } : Jvm.MethodName) prog_2_method_4_code (3 : Nat) (Option.none : Option Jvm.ClassFile.FieldType)) ∈ TB := TB_mem 711 (by decide +kernel) (by decide +kernel)
set_option maxRecDepth 20000 in
theorem tn712 : (Jvm.Cond.methodLinkNest "InvoiceSmith$Bill" (35 : Nat) ({ cls := "InvoiceSmith", name := "get", desc := "([II)I" } : Jvm.MethodName) "InvoiceSmith") ∈ TN := TN_mem 712 (by decide +kernel) (by decide +kernel)
set_option maxRecDepth 20000 in
theorem tb713 : (Jvm.Cond.methodLink "InvoiceSmithLaw" (119 : Nat) ({ cls := "InvoiceSmithLaw", name := "make", desc := "(LInvoiceSmith;I[J)I" } : Jvm.MethodName)) ∈ TB := TB_mem 713 (by decide +kernel) (by decide +kernel)
set_option maxRecDepth 20000 in
theorem tb714 : (Jvm.Cond.static ({ cls := "InvoiceSmithLaw", name := "make", desc := "(LInvoiceSmith;I[J)I" } : Jvm.MethodName)) ∈ TB := TB_mem 714 (by decide +kernel) (by decide +kernel)
set_option maxRecDepth 20000 in
theorem tb716 : (Jvm.Cond.methodLink "InvoiceSmithLaw" (47 : Nat) ({ cls := "InvoiceSmith", name := "make", desc := "(I)I" } : Jvm.MethodName)) ∈ TB := TB_mem 716 (by decide +kernel) (by decide +kernel)
set_option maxRecDepth 20000 in
theorem tb717 : (Jvm.Cond.instanceMethod ({ cls := "InvoiceSmith", name := "make", desc := "(I)I" } : Jvm.MethodName)) ∈ TB := TB_mem 717 (by decide +kernel) (by decide +kernel)
set_option maxRecDepth 20000 in
theorem tb718 : (Jvm.Cond.selects "InvoiceSmith" ({ cls := "InvoiceSmith", name := "make", desc := "(I)I" } : Jvm.MethodName) ({ cls := "InvoiceSmith", name := "make", desc := "(I)I" } : Jvm.MethodName)) ∈ TB := TB_mem 718 (by decide +kernel) (by decide +kernel)
set_option maxRecDepth 20000 in
theorem tb719 : (Jvm.Cond.code ({ cls := "InvoiceSmith", name := "make", desc := "(I)I" } : Jvm.MethodName) prog_1_method_11_code (4 : Nat) (Option.some Jvm.ClassFile.FieldType.int)) ∈ TB := TB_mem 719 (by decide +kernel) (by decide +kernel)
set_option maxRecDepth 20000 in
theorem tn721 : (Jvm.Cond.methodLinkNest "InvoiceSmith" (198 : Nat) ({ cls := "InvoiceSmith$Rates", name := "fillTellings", desc := "(II[I)V" } : Jvm.MethodName) "InvoiceSmith") ∈ TN := TN_mem 721 (by decide +kernel) (by decide +kernel)
set_option maxRecDepth 20000 in
theorem tb723 : (Jvm.Cond.instanceMethod ({ cls := "InvoiceSmith$Rates", name := "fillTellings", desc := "(II[I)V" } : Jvm.MethodName)) ∈ TB := TB_mem 723 (by decide +kernel) (by decide +kernel)
set_option maxRecDepth 20000 in
theorem tb724 : (Jvm.Cond.code ({ cls := "InvoiceSmith$Rates", name := "fillTellings", desc := "(II[I)V" } : Jvm.MethodName) prog_6_method_4_code (5 : Nat) (Option.none : Option Jvm.ClassFile.FieldType)) ∈ TB := TB_mem 724 (by decide +kernel) (by decide +kernel)
set_option maxRecDepth 20000 in
theorem tb725 : (Jvm.Cond.methodLink "InvoiceSmith$Rates" (36 : Nat) ({ cls := "InvoiceSmith$Rates", name := "known", desc := "(III)I" } : Jvm.MethodName)) ∈ TB := TB_mem 725 (by decide +kernel) (by decide +kernel)
set_option maxRecDepth 20000 in
theorem tn726 : (Jvm.Cond.methodLinkNest "InvoiceSmith" (205 : Nat) ({ cls := "InvoiceSmith$Rates", name := "fillHundredths", desc := "(II[I)V" } : Jvm.MethodName) "InvoiceSmith") ∈ TN := TN_mem 726 (by decide +kernel) (by decide +kernel)
set_option maxRecDepth 20000 in
theorem tb728 : (Jvm.Cond.instanceMethod ({ cls := "InvoiceSmith$Rates", name := "fillHundredths", desc := "(II[I)V" } : Jvm.MethodName)) ∈ TB := TB_mem 728 (by decide +kernel) (by decide +kernel)
set_option maxRecDepth 20000 in
theorem tb729 : (Jvm.Cond.code ({ cls := "InvoiceSmith$Rates", name := "fillHundredths", desc := "(II[I)V" } : Jvm.MethodName) prog_6_method_5_code (6 : Nat) (Option.none : Option Jvm.ClassFile.FieldType)) ∈ TB := TB_mem 729 (by decide +kernel) (by decide +kernel)
set_option maxRecDepth 20000 in
theorem tn730 : (Jvm.Cond.methodLinkNest "InvoiceSmith" (208 : Nat) ({ cls := "InvoiceSmith$Bill", name := "taxBy", desc := "([I)I" } : Jvm.MethodName) "InvoiceSmith") ∈ TN := TN_mem 730 (by decide +kernel) (by decide +kernel)
set_option maxRecDepth 20000 in
theorem tb732 : (Jvm.Cond.instanceMethod ({ cls := "InvoiceSmith$Bill", name := "taxBy", desc := "([I)I" } : Jvm.MethodName)) ∈ TB := TB_mem 732 (by decide +kernel) (by decide +kernel)
set_option maxRecDepth 20000 in
theorem tb733 : (Jvm.Cond.code ({ cls := "InvoiceSmith$Bill", name := "taxBy", desc := "([I)I" } : Jvm.MethodName) prog_2_method_8_code (2 : Nat) (Option.some Jvm.ClassFile.FieldType.int)) ∈ TB := TB_mem 733 (by decide +kernel) (by decide +kernel)
set_option maxRecDepth 20000 in
theorem tb734 : (Jvm.Cond.methodLink "InvoiceSmith$Bill" (52 : Nat) ({ cls := "InvoiceSmith$Bill", name := "taxByLine", desc := "([I)I" } : Jvm.MethodName)) ∈ TB := TB_mem 734 (by decide +kernel) (by decide +kernel)
set_option maxRecDepth 20000 in
theorem tb736 : (Jvm.Cond.instanceMethod ({ cls := "InvoiceSmith$Bill", name := "taxByLine", desc := "([I)I" } : Jvm.MethodName)) ∈ TB := TB_mem 736 (by decide +kernel) (by decide +kernel)
set_option maxRecDepth 20000 in
theorem tb737 : (Jvm.Cond.code ({ cls := "InvoiceSmith$Bill", name := "taxByLine", desc := "([I)I" } : Jvm.MethodName) prog_2_method_9_code (4 : Nat) (Option.some Jvm.ClassFile.FieldType.int)) ∈ TB := TB_mem 737 (by decide +kernel) (by decide +kernel)
set_option maxRecDepth 20000 in
theorem tb738 : (Jvm.Cond.methodLink "InvoiceSmith$Bill" (62 : Nat) ({ cls := "InvoiceSmith$Bill", name := "timesRate", desc := "(I[I)I" } : Jvm.MethodName)) ∈ TB := TB_mem 738 (by decide +kernel) (by decide +kernel)
set_option maxRecDepth 20000 in
theorem tb740 : (Jvm.Cond.instanceMethod ({ cls := "InvoiceSmith$Bill", name := "timesRate", desc := "(I[I)I" } : Jvm.MethodName)) ∈ TB := TB_mem 740 (by decide +kernel) (by decide +kernel)
set_option maxRecDepth 20000 in
theorem tb741 : (Jvm.Cond.code ({ cls := "InvoiceSmith$Bill", name := "timesRate", desc := "(I[I)I" } : Jvm.MethodName) prog_2_method_12_code (3 : Nat) (Option.some Jvm.ClassFile.FieldType.int)) ∈ TB := TB_mem 741 (by decide +kernel) (by decide +kernel)
set_option maxRecDepth 20000 in
theorem tb742 : (Jvm.Cond.methodLink "InvoiceSmith$Bill" (39 : Nat) ({ cls := "InvoiceSmith$Bill", name := "amountOf", desc := "(I)I" } : Jvm.MethodName)) ∈ TB := TB_mem 742 (by decide +kernel) (by decide +kernel)
set_option maxRecDepth 20000 in
theorem tb744 : (Jvm.Cond.instanceMethod ({ cls := "InvoiceSmith$Bill", name := "amountOf", desc := "(I)I" } : Jvm.MethodName)) ∈ TB := TB_mem 744 (by decide +kernel) (by decide +kernel)
set_option maxRecDepth 20000 in
theorem tb745 : (Jvm.Cond.code ({ cls := "InvoiceSmith$Bill", name := "amountOf", desc := "(I)I" } : Jvm.MethodName) prog_2_method_5_code (2 : Nat) (Option.some Jvm.ClassFile.FieldType.int)) ∈ TB := TB_mem 745 (by decide +kernel) (by decide +kernel)
set_option maxRecDepth 20000 in
theorem tb746 : (Jvm.Cond.methodLink "InvoiceSmith$Bill" (66 : Nat) ({ cls := "InvoiceSmith$Bill", name := "hundredth", desc := "(I)I" } : Jvm.MethodName)) ∈ TB := TB_mem 746 (by decide +kernel) (by decide +kernel)
set_option maxRecDepth 20000 in
theorem tb747 : (Jvm.Cond.static ({ cls := "InvoiceSmith$Bill", name := "hundredth", desc := "(I)I" } : Jvm.MethodName)) ∈ TB := TB_mem 747 (by decide +kernel) (by decide +kernel)
set_option maxRecDepth 20000 in
theorem tb748 : (Jvm.Cond.code ({ cls := "InvoiceSmith$Bill", name := "hundredth", desc := "(I)I" } : Jvm.MethodName) prog_2_method_13_code (1 : Nat) (Option.some Jvm.ClassFile.FieldType.int)) ∈ TB := TB_mem 748 (by decide +kernel) (by decide +kernel)
set_option maxRecDepth 20000 in
theorem tb749 : (Jvm.Cond.methodLink "InvoiceSmith$Bill" (56 : Nat) ({ cls := "InvoiceSmith$Bill", name := "taxByKind", desc := "([I)I" } : Jvm.MethodName)) ∈ TB := TB_mem 749 (by decide +kernel) (by decide +kernel)
set_option maxRecDepth 20000 in
theorem tb751 : (Jvm.Cond.instanceMethod ({ cls := "InvoiceSmith$Bill", name := "taxByKind", desc := "([I)I" } : Jvm.MethodName)) ∈ TB := TB_mem 751 (by decide +kernel) (by decide +kernel)
set_option maxRecDepth 20000 in
theorem tb752 : (Jvm.Cond.code ({ cls := "InvoiceSmith$Bill", name := "taxByKind", desc := "([I)I" } : Jvm.MethodName) prog_2_method_10_code (6 : Nat) (Option.some Jvm.ClassFile.FieldType.int)) ∈ TB := TB_mem 752 (by decide +kernel) (by decide +kernel)
set_option maxRecDepth 20000 in
theorem tb753 : (Jvm.Cond.methodLink "InvoiceSmith$Bill" (59 : Nat) ({ cls := "InvoiceSmith$Bill", name := "taxByAll", desc := "([I)I" } : Jvm.MethodName)) ∈ TB := TB_mem 753 (by decide +kernel) (by decide +kernel)
set_option maxRecDepth 20000 in
theorem tb755 : (Jvm.Cond.instanceMethod ({ cls := "InvoiceSmith$Bill", name := "taxByAll", desc := "([I)I" } : Jvm.MethodName)) ∈ TB := TB_mem 755 (by decide +kernel) (by decide +kernel)
set_option maxRecDepth 20000 in
theorem tb756 : (Jvm.Cond.code ({ cls := "InvoiceSmith$Bill", name := "taxByAll", desc := "([I)I" } : Jvm.MethodName) prog_2_method_11_code (4 : Nat) (Option.some Jvm.ClassFile.FieldType.int)) ∈ TB := TB_mem 756 (by decide +kernel) (by decide +kernel)
set_option maxRecDepth 20000 in
theorem tb757 : (Jvm.Cond.methodLink "InvoiceSmithLaw" (122 : Nat) ({ cls := "InvoiceSmithLaw", name := "invoice", desc := "(LInvoiceSmith;II[J)I" } : Jvm.MethodName)) ∈ TB := TB_mem 757 (by decide +kernel) (by decide +kernel)
set_option maxRecDepth 20000 in
theorem tb758 : (Jvm.Cond.static ({ cls := "InvoiceSmithLaw", name := "invoice", desc := "(LInvoiceSmith;II[J)I" } : Jvm.MethodName)) ∈ TB := TB_mem 758 (by decide +kernel) (by decide +kernel)
set_option maxRecDepth 20000 in
theorem tb760 : (Jvm.Cond.methodLink "InvoiceSmithLaw" (50 : Nat) ({ cls := "InvoiceSmith", name := "invoice", desc := "(II)I" } : Jvm.MethodName)) ∈ TB := TB_mem 760 (by decide +kernel) (by decide +kernel)
set_option maxRecDepth 20000 in
theorem tb761 : (Jvm.Cond.instanceMethod ({ cls := "InvoiceSmith", name := "invoice", desc := "(II)I" } : Jvm.MethodName)) ∈ TB := TB_mem 761 (by decide +kernel) (by decide +kernel)
set_option maxRecDepth 20000 in
theorem tb762 : (Jvm.Cond.selects "InvoiceSmith" ({ cls := "InvoiceSmith", name := "invoice", desc := "(II)I" } : Jvm.MethodName) ({ cls := "InvoiceSmith", name := "invoice", desc := "(II)I" } : Jvm.MethodName)) ∈ TB := TB_mem 762 (by decide +kernel) (by decide +kernel)
set_option maxRecDepth 20000 in
theorem tb763 : (Jvm.Cond.code ({ cls := "InvoiceSmith", name := "invoice", desc := "(II)I" } : Jvm.MethodName) prog_1_method_12_code (4 : Nat) (Option.some Jvm.ClassFile.FieldType.int)) ∈ TB := TB_mem 763 (by decide +kernel) (by decide +kernel)
set_option maxRecDepth 20000 in
theorem tb764 : (Jvm.Cond.methodLink "InvoiceSmith" (215 : Nat) ({ cls := "InvoiceSmith", name := "findBill", desc := "(I)LInvoiceSmith$Bill;" } : Jvm.MethodName)) ∈ TB := TB_mem 764 (by decide +kernel) (by decide +kernel)
set_option maxRecDepth 20000 in
theorem tb766 : (Jvm.Cond.instanceMethod ({ cls := "InvoiceSmith", name := "findBill", desc := "(I)LInvoiceSmith$Bill;" } : Jvm.MethodName)) ∈ TB := TB_mem 766 (by decide +kernel) (by decide +kernel)
set_option maxRecDepth 20000 in
theorem tb767 : (Jvm.Cond.code ({ cls := "InvoiceSmith", name := "findBill", desc := "(I)LInvoiceSmith$Bill;" } : Jvm.MethodName) prog_1_method_24_code (3 : Nat) (Option.some (Jvm.ClassFile.FieldType.object "InvoiceSmith$Bill"))) ∈ TB := TB_mem 767 (by decide +kernel) (by decide +kernel)
set_option maxRecDepth 20000 in
theorem tn769 : (Jvm.Cond.methodLinkNest "InvoiceSmith" (219 : Nat) ({ cls := "InvoiceSmith$Bill", name := "sumOfAmounts", desc := "()I" } : Jvm.MethodName) "InvoiceSmith") ∈ TN := TN_mem 769 (by decide +kernel) (by decide +kernel)
set_option maxRecDepth 20000 in
theorem tb771 : (Jvm.Cond.instanceMethod ({ cls := "InvoiceSmith$Bill", name := "sumOfAmounts", desc := "()I" } : Jvm.MethodName)) ∈ TB := TB_mem 771 (by decide +kernel) (by decide +kernel)
set_option maxRecDepth 20000 in
theorem tb772 : (Jvm.Cond.code ({ cls := "InvoiceSmith$Bill", name := "sumOfAmounts", desc := "()I" } : Jvm.MethodName) prog_2_method_6_code (3 : Nat) (Option.some Jvm.ClassFile.FieldType.int)) ∈ TB := TB_mem 772 (by decide +kernel) (by decide +kernel)
set_option maxRecDepth 20000 in
theorem tn773 : (Jvm.Cond.methodLinkNest "InvoiceSmith" (222 : Nat) ({ cls := "InvoiceSmith$Bill", name := "taxWithNotes", desc := "()I" } : Jvm.MethodName) "InvoiceSmith") ∈ TN := TN_mem 773 (by decide +kernel) (by decide +kernel)
set_option maxRecDepth 20000 in
theorem tb775 : (Jvm.Cond.instanceMethod ({ cls := "InvoiceSmith$Bill", name := "taxWithNotes", desc := "()I" } : Jvm.MethodName)) ∈ TB := TB_mem 775 (by decide +kernel) (by decide +kernel)
set_option maxRecDepth 20000 in
theorem tb776 : (Jvm.Cond.code ({ cls := "InvoiceSmith$Bill", name := "taxWithNotes", desc := "()I" } : Jvm.MethodName) prog_2_method_7_code (1 : Nat) (Option.some Jvm.ClassFile.FieldType.int)) ∈ TB := TB_mem 776 (by decide +kernel) (by decide +kernel)
set_option maxRecDepth 20000 in
theorem tb778 : (Jvm.Cond.methodLink "InvoiceSmithLaw" (125 : Nat) ({ cls := "InvoiceSmithLaw", name := "taxAnew", desc := "(LInvoiceSmith;I[J)I" } : Jvm.MethodName)) ∈ TB := TB_mem 778 (by decide +kernel) (by decide +kernel)
set_option maxRecDepth 20000 in
theorem tb779 : (Jvm.Cond.static ({ cls := "InvoiceSmithLaw", name := "taxAnew", desc := "(LInvoiceSmith;I[J)I" } : Jvm.MethodName)) ∈ TB := TB_mem 779 (by decide +kernel) (by decide +kernel)
set_option maxRecDepth 20000 in
theorem tb781 : (Jvm.Cond.methodLink "InvoiceSmithLaw" (53 : Nat) ({ cls := "InvoiceSmith", name := "taxAnew", desc := "(I)I" } : Jvm.MethodName)) ∈ TB := TB_mem 781 (by decide +kernel) (by decide +kernel)
set_option maxRecDepth 20000 in
theorem tb782 : (Jvm.Cond.instanceMethod ({ cls := "InvoiceSmith", name := "taxAnew", desc := "(I)I" } : Jvm.MethodName)) ∈ TB := TB_mem 782 (by decide +kernel) (by decide +kernel)
set_option maxRecDepth 20000 in
theorem tb783 : (Jvm.Cond.selects "InvoiceSmith" ({ cls := "InvoiceSmith", name := "taxAnew", desc := "(I)I" } : Jvm.MethodName) ({ cls := "InvoiceSmith", name := "taxAnew", desc := "(I)I" } : Jvm.MethodName)) ∈ TB := TB_mem 783 (by decide +kernel) (by decide +kernel)
set_option maxRecDepth 20000 in
theorem tb784 : (Jvm.Cond.code ({ cls := "InvoiceSmith", name := "taxAnew", desc := "(I)I" } : Jvm.MethodName) prog_1_method_13_code (2 : Nat) (Option.some Jvm.ClassFile.FieldType.int)) ∈ TB := TB_mem 784 (by decide +kernel) (by decide +kernel)
set_option maxRecDepth 20000 in
theorem tb785 : (Jvm.Cond.methodLink "InvoiceSmith" (227 : Nat) ({ cls := "InvoiceSmith", name := "taxKnownNow", desc := "(LInvoiceSmith$Bill;)I" } : Jvm.MethodName)) ∈ TB := TB_mem 785 (by decide +kernel) (by decide +kernel)
set_option maxRecDepth 20000 in
theorem tb787 : (Jvm.Cond.instanceMethod ({ cls := "InvoiceSmith", name := "taxKnownNow", desc := "(LInvoiceSmith$Bill;)I" } : Jvm.MethodName)) ∈ TB := TB_mem 787 (by decide +kernel) (by decide +kernel)
set_option maxRecDepth 20000 in
theorem tb788 : (Jvm.Cond.code ({ cls := "InvoiceSmith", name := "taxKnownNow", desc := "(LInvoiceSmith$Bill;)I" } : Jvm.MethodName) prog_1_method_26_code (2 : Nat) (Option.some Jvm.ClassFile.FieldType.int)) ∈ TB := TB_mem 788 (by decide +kernel) (by decide +kernel)
set_option maxRecDepth 20000 in
theorem tb789 : (Jvm.Cond.methodLink "InvoiceSmithLaw" (128 : Nat) ({ cls := "InvoiceSmithLaw", name := "used", desc := "(LInvoiceSmith;II[J)I" } : Jvm.MethodName)) ∈ TB := TB_mem 789 (by decide +kernel) (by decide +kernel)
set_option maxRecDepth 20000 in
theorem tb790 : (Jvm.Cond.static ({ cls := "InvoiceSmithLaw", name := "used", desc := "(LInvoiceSmith;II[J)I" } : Jvm.MethodName)) ∈ TB := TB_mem 790 (by decide +kernel) (by decide +kernel)
set_option maxRecDepth 20000 in
theorem tb792 : (Jvm.Cond.methodLink "InvoiceSmithLaw" (56 : Nat) ({ cls := "InvoiceSmith", name := "used", desc := "(II)I" } : Jvm.MethodName)) ∈ TB := TB_mem 792 (by decide +kernel) (by decide +kernel)
set_option maxRecDepth 20000 in
theorem tb793 : (Jvm.Cond.instanceMethod ({ cls := "InvoiceSmith", name := "used", desc := "(II)I" } : Jvm.MethodName)) ∈ TB := TB_mem 793 (by decide +kernel) (by decide +kernel)
set_option maxRecDepth 20000 in
theorem tb794 : (Jvm.Cond.selects "InvoiceSmith" ({ cls := "InvoiceSmith", name := "used", desc := "(II)I" } : Jvm.MethodName) ({ cls := "InvoiceSmith", name := "used", desc := "(II)I" } : Jvm.MethodName)) ∈ TB := TB_mem 794 (by decide +kernel) (by decide +kernel)
set_option maxRecDepth 20000 in
theorem tb795 : (Jvm.Cond.code ({ cls := "InvoiceSmith", name := "used", desc := "(II)I" } : Jvm.MethodName) prog_1_method_14_code (4 : Nat) (Option.some Jvm.ClassFile.FieldType.int)) ∈ TB := TB_mem 795 (by decide +kernel) (by decide +kernel)
set_option maxRecDepth 20000 in
theorem tb796 : (Jvm.Cond.methodLink "InvoiceSmithLaw" (131 : Nat) ({ cls := "InvoiceSmithLaw", name := "written", desc := "(LInvoiceSmith;III[J)I" } : Jvm.MethodName)) ∈ TB := TB_mem 796 (by decide +kernel) (by decide +kernel)
set_option maxRecDepth 20000 in
theorem tb797 : (Jvm.Cond.static ({ cls := "InvoiceSmithLaw", name := "written", desc := "(LInvoiceSmith;III[J)I" } : Jvm.MethodName)) ∈ TB := TB_mem 797 (by decide +kernel) (by decide +kernel)
set_option maxRecDepth 20000 in
theorem tb799 : (Jvm.Cond.methodLink "InvoiceSmithLaw" (59 : Nat) ({ cls := "InvoiceSmith", name := "written", desc := "(III)C" } : Jvm.MethodName)) ∈ TB := TB_mem 799 (by decide +kernel) (by decide +kernel)
set_option maxRecDepth 20000 in
theorem tb800 : (Jvm.Cond.instanceMethod ({ cls := "InvoiceSmith", name := "written", desc := "(III)C" } : Jvm.MethodName)) ∈ TB := TB_mem 800 (by decide +kernel) (by decide +kernel)
set_option maxRecDepth 20000 in
theorem tb801 : (Jvm.Cond.selects "InvoiceSmith" ({ cls := "InvoiceSmith", name := "written", desc := "(III)C" } : Jvm.MethodName) ({ cls := "InvoiceSmith", name := "written", desc := "(III)C" } : Jvm.MethodName)) ∈ TB := TB_mem 801 (by decide +kernel) (by decide +kernel)
set_option maxRecDepth 20000 in
theorem tb802 : (Jvm.Cond.code ({ cls := "InvoiceSmith", name := "written", desc := "(III)C" } : Jvm.MethodName) prog_1_method_15_code (6 : Nat) (Option.some Jvm.ClassFile.FieldType.char)) ∈ TB := TB_mem 802 (by decide +kernel) (by decide +kernel)
set_option maxRecDepth 20000 in
theorem tb803 : (Jvm.Cond.methodLink "InvoiceSmith" (234 : Nat) ({ cls := "InvoiceSmith", name := "findForm", desc := "(I)LInvoiceSmith$Form;" } : Jvm.MethodName)) ∈ TB := TB_mem 803 (by decide +kernel) (by decide +kernel)
set_option maxRecDepth 20000 in
theorem tb805 : (Jvm.Cond.instanceMethod ({ cls := "InvoiceSmith", name := "findForm", desc := "(I)LInvoiceSmith$Form;" } : Jvm.MethodName)) ∈ TB := TB_mem 805 (by decide +kernel) (by decide +kernel)
set_option maxRecDepth 20000 in
theorem tb806 : (Jvm.Cond.code ({ cls := "InvoiceSmith", name := "findForm", desc := "(I)LInvoiceSmith$Form;" } : Jvm.MethodName) prog_1_method_25_code (3 : Nat) (Option.some (Jvm.ClassFile.FieldType.object "InvoiceSmith$Form"))) ∈ TB := TB_mem 806 (by decide +kernel) (by decide +kernel)
set_option maxRecDepth 20000 in
theorem tn808 : (Jvm.Cond.methodLinkNest "InvoiceSmith" (240 : Nat) ({ cls := "InvoiceSmith$Writer", name := "write", desc := "(LInvoiceSmith$Bill;LInvoiceSmith$Form;I)V" } : Jvm.MethodName) "InvoiceSmith") ∈ TN := TN_mem 808 (by decide +kernel) (by decide +kernel)
set_option maxRecDepth 20000 in
theorem tb810 : (Jvm.Cond.instanceMethod ({ cls := "InvoiceSmith$Writer", name := "write", desc := "(LInvoiceSmith$Bill;LInvoiceSmith$Form;I)V" } : Jvm.MethodName)) ∈ TB := TB_mem 810 (by decide +kernel) (by decide +kernel)
set_option maxRecDepth 20000 in
theorem tb811 : (Jvm.Cond.code ({ cls := "InvoiceSmith$Writer", name := "write", desc := "(LInvoiceSmith$Bill;LInvoiceSmith$Form;I)V" } : Jvm.MethodName) prog_8_method_2_code (6 : Nat) (Option.none : Option Jvm.ClassFile.FieldType)) ∈ TB := TB_mem 811 (by decide +kernel) (by decide +kernel)
set_option maxRecDepth 20000 in
theorem tb812 : (Jvm.Cond.constant "InvoiceSmith$Writer" (36 : Nat) (1000000 : Int32)) ∈ TB := TB_mem 812 (by decide +kernel) (by decide +kernel)
set_option maxRecDepth 20000 in
theorem tb813 : (Jvm.Cond.methodLink "InvoiceSmith$Writer" (42 : Nat) ({ cls := "InvoiceSmith$Writer", name := "step", desc := "(LInvoiceSmith$Bill;LInvoiceSmith$Form;I)I" } : Jvm.MethodName)) ∈ TB := TB_mem 813 (by decide +kernel) (by decide +kernel)
set_option maxRecDepth 20000 in
theorem tb815 : (Jvm.Cond.instanceMethod ({ cls := "InvoiceSmith$Writer", name := "step", desc := "(LInvoiceSmith$Bill;LInvoiceSmith$Form;I)I" } : Jvm.MethodName)) ∈ TB := TB_mem 815 (by decide +kernel) (by decide +kernel)
set_option maxRecDepth 20000 in
theorem tb816 : (Jvm.Cond.code ({ cls := "InvoiceSmith$Writer", name := "step", desc := "(LInvoiceSmith$Bill;LInvoiceSmith$Form;I)I" } : Jvm.MethodName) prog_8_method_3_code (6 : Nat) (Option.some Jvm.ClassFile.FieldType.int)) ∈ TB := TB_mem 816 (by decide +kernel) (by decide +kernel)
set_option maxRecDepth 20000 in
theorem tn817 : (Jvm.Cond.methodLinkNest "InvoiceSmith$Writer" (49 : Nat) ({ cls := "InvoiceSmith", name := "get", desc := "([II)I" } : Jvm.MethodName) "InvoiceSmith") ∈ TN := TN_mem 817 (by decide +kernel) (by decide +kernel)
set_option maxRecDepth 20000 in
theorem tb818 : (Jvm.Cond.methodLink "InvoiceSmith$Writer" (59 : Nat) ({ cls := "InvoiceSmith$Writer", name := "put", desc := "(C)V" } : Jvm.MethodName)) ∈ TB := TB_mem 818 (by decide +kernel) (by decide +kernel)
set_option maxRecDepth 20000 in
theorem tb820 : (Jvm.Cond.instanceMethod ({ cls := "InvoiceSmith$Writer", name := "put", desc := "(C)V" } : Jvm.MethodName)) ∈ TB := TB_mem 820 (by decide +kernel) (by decide +kernel)
set_option maxRecDepth 20000 in
theorem tb821 : (Jvm.Cond.code ({ cls := "InvoiceSmith$Writer", name := "put", desc := "(C)V" } : Jvm.MethodName) prog_8_method_6_code (2 : Nat) (Option.none : Option Jvm.ClassFile.FieldType)) ∈ TB := TB_mem 821 (by decide +kernel) (by decide +kernel)
set_option maxRecDepth 20000 in
theorem tn822 : (Jvm.Cond.methodLinkNest "InvoiceSmith$Writer" (63 : Nat) ({ cls := "InvoiceSmith$Bill", name := "numberNamed", desc := "(CI)I" } : Jvm.MethodName) "InvoiceSmith") ∈ TN := TN_mem 822 (by decide +kernel) (by decide +kernel)
set_option maxRecDepth 20000 in
theorem tb824 : (Jvm.Cond.instanceMethod ({ cls := "InvoiceSmith$Bill", name := "numberNamed", desc := "(CI)I" } : Jvm.MethodName)) ∈ TB := TB_mem 824 (by decide +kernel) (by decide +kernel)
set_option maxRecDepth 20000 in
theorem tb825 : (Jvm.Cond.code ({ cls := "InvoiceSmith$Bill", name := "numberNamed", desc := "(CI)I" } : Jvm.MethodName) prog_2_method_14_code (3 : Nat) (Option.some Jvm.ClassFile.FieldType.int)) ∈ TB := TB_mem 825 (by decide +kernel) (by decide +kernel)
set_option maxRecDepth 20000 in
theorem tb826 : (Jvm.Cond.methodLink "InvoiceSmith$Bill" (78 : Nat) ({ cls := "InvoiceSmith$Bill", name := "sumOfAmounts", desc := "()I" } : Jvm.MethodName)) ∈ TB := TB_mem 826 (by decide +kernel) (by decide +kernel)
set_option maxRecDepth 20000 in
theorem tb827 : (Jvm.Cond.methodLink "InvoiceSmith$Writer" (69 : Nat) ({ cls := "InvoiceSmith$Writer", name := "putNumber", desc := "(II)V" } : Jvm.MethodName)) ∈ TB := TB_mem 827 (by decide +kernel) (by decide +kernel)
set_option maxRecDepth 20000 in
theorem tb829 : (Jvm.Cond.instanceMethod ({ cls := "InvoiceSmith$Writer", name := "putNumber", desc := "(II)V" } : Jvm.MethodName)) ∈ TB := TB_mem 829 (by decide +kernel) (by decide +kernel)
set_option maxRecDepth 20000 in
theorem tb830 : (Jvm.Cond.code ({ cls := "InvoiceSmith$Writer", name := "putNumber", desc := "(II)V" } : Jvm.MethodName) prog_8_method_7_code (8 : Nat) (Option.none : Option Jvm.ClassFile.FieldType)) ∈ TB := TB_mem 830 (by decide +kernel) (by decide +kernel)
set_option maxRecDepth 20000 in
theorem tb831 : (Jvm.Cond.constantLong "InvoiceSmith$Writer" (85 : Nat) (10 : Int64)) ∈ TB := TB_mem 831 (by decide +kernel) (by decide +kernel)
set_option maxRecDepth 20000 in
theorem tn832 : (Jvm.Cond.methodLinkNest "InvoiceSmith$Writer" (87 : Nat) ({ cls := "InvoiceSmith", name := "set", desc := "([III)V" } : Jvm.MethodName) "InvoiceSmith") ∈ TN := TN_mem 832 (by decide +kernel) (by decide +kernel)
set_option maxRecDepth 20000 in
theorem tb833 : (Jvm.Cond.methodLink "InvoiceSmith$Writer" (73 : Nat) ({ cls := "InvoiceSmith$Writer", name := "compareSums", desc := "(C)Z" } : Jvm.MethodName)) ∈ TB := TB_mem 833 (by decide +kernel) (by decide +kernel)
set_option maxRecDepth 20000 in
theorem tb835 : (Jvm.Cond.instanceMethod ({ cls := "InvoiceSmith$Writer", name := "compareSums", desc := "(C)Z" } : Jvm.MethodName)) ∈ TB := TB_mem 835 (by decide +kernel) (by decide +kernel)
set_option maxRecDepth 20000 in
theorem tb836 : (Jvm.Cond.code ({ cls := "InvoiceSmith$Writer", name := "compareSums", desc := "(C)Z" } : Jvm.MethodName) prog_8_method_4_code (4 : Nat) (Option.some Jvm.ClassFile.FieldType.boolean)) ∈ TB := TB_mem 836 (by decide +kernel) (by decide +kernel)
set_option maxRecDepth 20000 in
theorem tb837 : (Jvm.Cond.methodLink "InvoiceSmith$Writer" (77 : Nat) ({ cls := "InvoiceSmith$Writer", name := "nextLine", desc := "(LInvoiceSmith$Bill;)Z" } : Jvm.MethodName)) ∈ TB := TB_mem 837 (by decide +kernel) (by decide +kernel)
set_option maxRecDepth 20000 in
theorem tb839 : (Jvm.Cond.instanceMethod ({ cls := "InvoiceSmith$Writer", name := "nextLine", desc := "(LInvoiceSmith$Bill;)Z" } : Jvm.MethodName)) ∈ TB := TB_mem 839 (by decide +kernel) (by decide +kernel)
set_option maxRecDepth 20000 in
theorem tb840 : (Jvm.Cond.code ({ cls := "InvoiceSmith$Writer", name := "nextLine", desc := "(LInvoiceSmith$Bill;)Z" } : Jvm.MethodName) prog_8_method_5_code (3 : Nat) (Option.some Jvm.ClassFile.FieldType.boolean)) ∈ TB := TB_mem 840 (by decide +kernel) (by decide +kernel)
set_option maxRecDepth 20000 in
theorem tn841 : (Jvm.Cond.methodLinkNest "InvoiceSmith$Writer" (81 : Nat) ({ cls := "InvoiceSmith$Bill", name := "hasLine", desc := "(I)Z" } : Jvm.MethodName) "InvoiceSmith") ∈ TN := TN_mem 841 (by decide +kernel) (by decide +kernel)
set_option maxRecDepth 20000 in
theorem tb842 : (Jvm.Cond.methodLink "InvoiceSmithLaw" (134 : Nat) ({ cls := "InvoiceSmithLaw", name := "length", desc := "(LInvoiceSmith;II[J)I" } : Jvm.MethodName)) ∈ TB := TB_mem 842 (by decide +kernel) (by decide +kernel)
set_option maxRecDepth 20000 in
theorem tb843 : (Jvm.Cond.static ({ cls := "InvoiceSmithLaw", name := "length", desc := "(LInvoiceSmith;II[J)I" } : Jvm.MethodName)) ∈ TB := TB_mem 843 (by decide +kernel) (by decide +kernel)
set_option maxRecDepth 20000 in
theorem tb845 : (Jvm.Cond.methodLink "InvoiceSmithLaw" (63 : Nat) ({ cls := "InvoiceSmith", name := "length", desc := "(II)I" } : Jvm.MethodName)) ∈ TB := TB_mem 845 (by decide +kernel) (by decide +kernel)
set_option maxRecDepth 20000 in
theorem tb846 : (Jvm.Cond.instanceMethod ({ cls := "InvoiceSmith", name := "length", desc := "(II)I" } : Jvm.MethodName)) ∈ TB := TB_mem 846 (by decide +kernel) (by decide +kernel)
set_option maxRecDepth 20000 in
theorem tb847 : (Jvm.Cond.selects "InvoiceSmith" ({ cls := "InvoiceSmith", name := "length", desc := "(II)I" } : Jvm.MethodName) ({ cls := "InvoiceSmith", name := "length", desc := "(II)I" } : Jvm.MethodName)) ∈ TB := TB_mem 847 (by decide +kernel) (by decide +kernel)
set_option maxRecDepth 20000 in
theorem tb848 : (Jvm.Cond.code ({ cls := "InvoiceSmith", name := "length", desc := "(II)I" } : Jvm.MethodName) prog_1_method_16_code (5 : Nat) (Option.some Jvm.ClassFile.FieldType.int)) ∈ TB := TB_mem 848 (by decide +kernel) (by decide +kernel)
set_option maxRecDepth 20000 in
theorem tb849 : (Jvm.Cond.methodLink "InvoiceSmithLaw" (137 : Nat) ({ cls := "InvoiceSmithLaw", name := "settle", desc := "(LInvoiceSmith;I[J)I" } : Jvm.MethodName)) ∈ TB := TB_mem 849 (by decide +kernel) (by decide +kernel)
set_option maxRecDepth 20000 in
theorem tb850 : (Jvm.Cond.static ({ cls := "InvoiceSmithLaw", name := "settle", desc := "(LInvoiceSmith;I[J)I" } : Jvm.MethodName)) ∈ TB := TB_mem 850 (by decide +kernel) (by decide +kernel)
set_option maxRecDepth 20000 in
theorem tb852 : (Jvm.Cond.methodLink "InvoiceSmithLaw" (66 : Nat) ({ cls := "InvoiceSmith", name := "settle", desc := "(I)I" } : Jvm.MethodName)) ∈ TB := TB_mem 852 (by decide +kernel) (by decide +kernel)
set_option maxRecDepth 20000 in
theorem tb853 : (Jvm.Cond.instanceMethod ({ cls := "InvoiceSmith", name := "settle", desc := "(I)I" } : Jvm.MethodName)) ∈ TB := TB_mem 853 (by decide +kernel) (by decide +kernel)
set_option maxRecDepth 20000 in
theorem tb854 : (Jvm.Cond.selects "InvoiceSmith" ({ cls := "InvoiceSmith", name := "settle", desc := "(I)I" } : Jvm.MethodName) ({ cls := "InvoiceSmith", name := "settle", desc := "(I)I" } : Jvm.MethodName)) ∈ TB := TB_mem 854 (by decide +kernel) (by decide +kernel)
set_option maxRecDepth 20000 in
theorem tb855 : (Jvm.Cond.code ({ cls := "InvoiceSmith", name := "settle", desc := "(I)I" } : Jvm.MethodName) prog_1_method_17_code (5 : Nat) (Option.some Jvm.ClassFile.FieldType.int)) ∈ TB := TB_mem 855 (by decide +kernel) (by decide +kernel)
set_option maxRecDepth 20000 in
theorem tb856 : (Jvm.Cond.methodLink "InvoiceSmith" (250 : Nat) ({ cls := "InvoiceSmith", name := "makeGood", desc := "(LInvoiceSmith$Bill;)V" } : Jvm.MethodName)) ∈ TB := TB_mem 856 (by decide +kernel) (by decide +kernel)
set_option maxRecDepth 20000 in
theorem tb858 : (Jvm.Cond.instanceMethod ({ cls := "InvoiceSmith", name := "makeGood", desc := "(LInvoiceSmith$Bill;)V" } : Jvm.MethodName)) ∈ TB := TB_mem 858 (by decide +kernel) (by decide +kernel)
set_option maxRecDepth 20000 in
theorem tb859 : (Jvm.Cond.code ({ cls := "InvoiceSmith", name := "makeGood", desc := "(LInvoiceSmith$Bill;)V" } : Jvm.MethodName) prog_1_method_27_code (3 : Nat) (Option.none : Option Jvm.ClassFile.FieldType)) ∈ TB := TB_mem 859 (by decide +kernel) (by decide +kernel)
set_option maxRecDepth 20000 in
theorem tn860 : (Jvm.Cond.methodLinkNest "InvoiceSmith" (273 : Nat) ({ cls := "InvoiceSmith$Ledger", name := "enter", desc := "(III)V" } : Jvm.MethodName) "InvoiceSmith") ∈ TN := TN_mem 860 (by decide +kernel) (by decide +kernel)
set_option maxRecDepth 20000 in
theorem tb862 : (Jvm.Cond.instanceMethod ({ cls := "InvoiceSmith$Ledger", name := "enter", desc := "(III)V" } : Jvm.MethodName)) ∈ TB := TB_mem 862 (by decide +kernel) (by decide +kernel)
set_option maxRecDepth 20000 in
theorem tb863 : (Jvm.Cond.code ({ cls := "InvoiceSmith$Ledger", name := "enter", desc := "(III)V" } : Jvm.MethodName) prog_4_method_2_code (4 : Nat) (Option.none : Option Jvm.ClassFile.FieldType)) ∈ TB := TB_mem 863 (by decide +kernel) (by decide +kernel)
set_option maxRecDepth 20000 in
theorem tn864 : (Jvm.Cond.methodLinkNest "InvoiceSmith$Ledger" (25 : Nat) ({ cls := "InvoiceSmith", name := "set", desc := "([III)V" } : Jvm.MethodName) "InvoiceSmith") ∈ TN := TN_mem 864 (by decide +kernel) (by decide +kernel)
set_option maxRecDepth 20000 in
theorem tb865 : (Jvm.Cond.methodLink "InvoiceSmithLaw" (144 : Nat) ({ cls := "InvoiceSmithLaw", name := "note", desc := "(LInvoiceSmith;II[J)I" } : Jvm.MethodName)) ∈ TB := TB_mem 865 (by decide +kernel) (by decide +kernel)
set_option maxRecDepth 20000 in
theorem tb866 : (Jvm.Cond.static ({ cls := "InvoiceSmithLaw", name := "note", desc := "(LInvoiceSmith;II[J)I" } : Jvm.MethodName)) ∈ TB := TB_mem 866 (by decide +kernel) (by decide +kernel)
set_option maxRecDepth 20000 in
theorem tb868 : (Jvm.Cond.methodLink "InvoiceSmithLaw" (69 : Nat) ({ cls := "InvoiceSmith", name := "note", desc := "(II)I" } : Jvm.MethodName)) ∈ TB := TB_mem 868 (by decide +kernel) (by decide +kernel)
set_option maxRecDepth 20000 in
theorem tb869 : (Jvm.Cond.instanceMethod ({ cls := "InvoiceSmith", name := "note", desc := "(II)I" } : Jvm.MethodName)) ∈ TB := TB_mem 869 (by decide +kernel) (by decide +kernel)
set_option maxRecDepth 20000 in
theorem tb870 : (Jvm.Cond.selects "InvoiceSmith" ({ cls := "InvoiceSmith", name := "note", desc := "(II)I" } : Jvm.MethodName) ({ cls := "InvoiceSmith", name := "note", desc := "(II)I" } : Jvm.MethodName)) ∈ TB := TB_mem 870 (by decide +kernel) (by decide +kernel)
set_option maxRecDepth 20000 in
theorem tb871 : (Jvm.Cond.code ({ cls := "InvoiceSmith", name := "note", desc := "(II)I" } : Jvm.MethodName) prog_1_method_19_code (3 : Nat) (Option.some Jvm.ClassFile.FieldType.int)) ∈ TB := TB_mem 871 (by decide +kernel) (by decide +kernel)
set_option maxRecDepth 20000 in
theorem tb873 : (Jvm.Cond.methodLink "InvoiceSmithLaw" (147 : Nat) ({ cls := "InvoiceSmithLaw", name := "owed", desc := "(LInvoiceSmith;I[J)I" } : Jvm.MethodName)) ∈ TB := TB_mem 873 (by decide +kernel) (by decide +kernel)
set_option maxRecDepth 20000 in
theorem tb874 : (Jvm.Cond.static ({ cls := "InvoiceSmithLaw", name := "owed", desc := "(LInvoiceSmith;I[J)I" } : Jvm.MethodName)) ∈ TB := TB_mem 874 (by decide +kernel) (by decide +kernel)
set_option maxRecDepth 20000 in
theorem tb876 : (Jvm.Cond.methodLink "InvoiceSmithLaw" (72 : Nat) ({ cls := "InvoiceSmith", name := "owed", desc := "(I)I" } : Jvm.MethodName)) ∈ TB := TB_mem 876 (by decide +kernel) (by decide +kernel)
set_option maxRecDepth 20000 in
theorem tb877 : (Jvm.Cond.instanceMethod ({ cls := "InvoiceSmith", name := "owed", desc := "(I)I" } : Jvm.MethodName)) ∈ TB := TB_mem 877 (by decide +kernel) (by decide +kernel)
set_option maxRecDepth 20000 in
theorem tb878 : (Jvm.Cond.selects "InvoiceSmith" ({ cls := "InvoiceSmith", name := "owed", desc := "(I)I" } : Jvm.MethodName) ({ cls := "InvoiceSmith", name := "owed", desc := "(I)I" } : Jvm.MethodName)) ∈ TB := TB_mem 878 (by decide +kernel) (by decide +kernel)
set_option maxRecDepth 20000 in
theorem tb879 : (Jvm.Cond.code ({ cls := "InvoiceSmith", name := "owed", desc := "(I)I" } : Jvm.MethodName) prog_1_method_20_code (5 : Nat) (Option.some Jvm.ClassFile.FieldType.int)) ∈ TB := TB_mem 879 (by decide +kernel) (by decide +kernel)
set_option maxRecDepth 20000 in
theorem tb880 : (Jvm.Cond.classLink "InvoiceSmithLaw" (76 : Nat) "InvoiceSmithModel") ∈ TB := TB_mem 880 (by decide +kernel) (by decide +kernel)
set_option maxRecDepth 20000 in
theorem tb881 : (Jvm.Cond.instantiable "InvoiceSmithModel" (51 : Nat)) ∈ TB := TB_mem 881 (by decide +kernel) (by decide +kernel)
set_option maxRecDepth 20000 in
theorem tb882 : (Jvm.Cond.methodLink "InvoiceSmithLaw" (78 : Nat) ({ cls := "InvoiceSmithModel", name := "<init>", desc := "()V" } : Jvm.MethodName)) ∈ TB := TB_mem 882 (by decide +kernel) (by decide +kernel)
set_option maxRecDepth 20000 in
theorem tb883 : (Jvm.Cond.instanceMethod ({ cls := "InvoiceSmithModel", name := "<init>", desc := "()V" } : Jvm.MethodName)) ∈ TB := TB_mem 883 (by decide +kernel) (by decide +kernel)
set_option maxRecDepth 20000 in
theorem tb884 : (Jvm.Cond.code ({ cls := "InvoiceSmithModel", name := "<init>", desc := "()V" } : Jvm.MethodName) prog_10_method_1_code (1 : Nat) (Option.none : Option Jvm.ClassFile.FieldType)) ∈ TB := TB_mem 884 (by decide +kernel) (by decide +kernel)
set_option maxRecDepth 20000 in
theorem tb885 : (Jvm.Cond.methodLink "InvoiceSmithModel" (1 : Nat) ({ cls := "java/lang/Object", name := "<init>", desc := "()V" } : Jvm.MethodName)) ∈ TB := TB_mem 885 (by decide +kernel) (by decide +kernel)
set_option maxRecDepth 20000 in
theorem tb886 : (Jvm.Cond.fieldLink "InvoiceSmithModel" (110 : Nat) "InvoiceSmithModel" "thrown" "I") ∈ TB := TB_mem 886 (by decide +kernel) (by decide +kernel)
set_option maxRecDepth 20000 in
theorem tb887 : (Jvm.Cond.fieldLink "InvoiceSmithModel" (124 : Nat) "InvoiceSmithModel" "signs" "I") ∈ TB := TB_mem 887 (by decide +kernel) (by decide +kernel)
set_option maxRecDepth 20000 in
theorem tb888 : (Jvm.Cond.fieldLink "InvoiceSmithModel" (7 : Nat) "InvoiceSmithModel" "page" "[I") ∈ TB := TB_mem 888 (by decide +kernel) (by decide +kernel)
set_option maxRecDepth 20000 in
theorem tb889 : (Jvm.Cond.fieldLink "InvoiceSmithModel" (181 : Nat) "InvoiceSmithModel" "templates" "I") ∈ TB := TB_mem 889 (by decide +kernel) (by decide +kernel)
set_option maxRecDepth 20000 in
theorem tb890 : (Jvm.Cond.fieldLink "InvoiceSmithModel" (13 : Nat) "InvoiceSmithModel" "sizes" "[I") ∈ TB := TB_mem 890 (by decide +kernel) (by decide +kernel)
set_option maxRecDepth 20000 in
theorem tb891 : (Jvm.Cond.fieldLink "InvoiceSmithModel" (16 : Nat) "InvoiceSmithModel" "texts" "[I") ∈ TB := TB_mem 891 (by decide +kernel) (by decide +kernel)
set_option maxRecDepth 20000 in
theorem tb892 : (Jvm.Cond.fieldLink "InvoiceSmithModel" (19 : Nat) "InvoiceSmithModel" "marks" "[I") ∈ TB := TB_mem 892 (by decide +kernel) (by decide +kernel)
set_option maxRecDepth 20000 in
theorem tb893 : (Jvm.Cond.fieldLink "InvoiceSmithModel" (22 : Nat) "InvoiceSmithModel" "bodies" "[I") ∈ TB := TB_mem 893 (by decide +kernel) (by decide +kernel)
set_option maxRecDepth 20000 in
theorem tb894 : (Jvm.Cond.fieldLink "InvoiceSmithModel" (25 : Nat) "InvoiceSmithModel" "others" "[I") ∈ TB := TB_mem 894 (by decide +kernel) (by decide +kernel)
set_option maxRecDepth 20000 in
theorem tb895 : (Jvm.Cond.fieldLink "InvoiceSmithModel" (134 : Nat) "InvoiceSmithModel" "at" "I") ∈ TB := TB_mem 895 (by decide +kernel) (by decide +kernel)
set_option maxRecDepth 20000 in
theorem tb896 : (Jvm.Cond.fieldLink "InvoiceSmithModel" (148 : Nat) "InvoiceSmithModel" "fault" "I") ∈ TB := TB_mem 896 (by decide +kernel) (by decide +kernel)
set_option maxRecDepth 20000 in
theorem tb897 : (Jvm.Cond.fieldLink "InvoiceSmithModel" (127 : Nat) "InvoiceSmithModel" "deep" "I") ∈ TB := TB_mem 897 (by decide +kernel) (by decide +kernel)
set_option maxRecDepth 20000 in
theorem tb898 : (Jvm.Cond.fieldLink "InvoiceSmithModel" (154 : Nat) "InvoiceSmithModel" "parts" "I") ∈ TB := TB_mem 898 (by decide +kernel) (by decide +kernel)
set_option maxRecDepth 20000 in
theorem tb899 : (Jvm.Cond.fieldLink "InvoiceSmithModel" (28 : Nat) "InvoiceSmithModel" "areLoops" "[Z") ∈ TB := TB_mem 899 (by decide +kernel) (by decide +kernel)
set_option maxRecDepth 20000 in
theorem tb900 : (Jvm.Cond.fieldLink "InvoiceSmithModel" (32 : Nat) "InvoiceSmithModel" "begins" "[I") ∈ TB := TB_mem 900 (by decide +kernel) (by decide +kernel)
set_option maxRecDepth 20000 in
theorem tb901 : (Jvm.Cond.fieldLink "InvoiceSmithModel" (35 : Nat) "InvoiceSmithModel" "middles" "[I") ∈ TB := TB_mem 901 (by decide +kernel) (by decide +kernel)
set_option maxRecDepth 20000 in
theorem tb902 : (Jvm.Cond.fieldLink "InvoiceSmithModel" (187 : Nat) "InvoiceSmithModel" "today" "I") ∈ TB := TB_mem 902 (by decide +kernel) (by decide +kernel)
set_option maxRecDepth 20000 in
theorem tb903 : (Jvm.Cond.fieldLink "InvoiceSmithModel" (193 : Nat) "InvoiceSmithModel" "tellings" "I") ∈ TB := TB_mem 903 (by decide +kernel) (by decide +kernel)
set_option maxRecDepth 20000 in
theorem tb904 : (Jvm.Cond.fieldLink "InvoiceSmithModel" (38 : Nat) "InvoiceSmithModel" "tellPlaces" "[I") ∈ TB := TB_mem 904 (by decide +kernel) (by decide +kernel)
set_option maxRecDepth 20000 in
theorem tb905 : (Jvm.Cond.fieldLink "InvoiceSmithModel" (41 : Nat) "InvoiceSmithModel" "tellKinds" "[I") ∈ TB := TB_mem 905 (by decide +kernel) (by decide +kernel)
set_option maxRecDepth 20000 in
theorem tb906 : (Jvm.Cond.fieldLink "InvoiceSmithModel" (44 : Nat) "InvoiceSmithModel" "tellRates" "[I") ∈ TB := TB_mem 906 (by decide +kernel) (by decide +kernel)
set_option maxRecDepth 20000 in
theorem tb907 : (Jvm.Cond.fieldLink "InvoiceSmithModel" (47 : Nat) "InvoiceSmithModel" "tellDays" "[I") ∈ TB := TB_mem 907 (by decide +kernel) (by decide +kernel)
set_option maxRecDepth 20000 in
theorem tb908 : (Jvm.Cond.fieldLink "InvoiceSmithModel" (50 : Nat) "InvoiceSmithModel" "roundings" "[I") ∈ TB := TB_mem 908 (by decide +kernel) (by decide +kernel)
set_option maxRecDepth 20000 in
theorem tb909 : (Jvm.Cond.fieldLink "InvoiceSmithModel" (53 : Nat) "InvoiceSmithModel" "clientPlaces" "[I") ∈ TB := TB_mem 909 (by decide +kernel) (by decide +kernel)
set_option maxRecDepth 20000 in
theorem tb910 : (Jvm.Cond.fieldLink "InvoiceSmithModel" (200 : Nat) "InvoiceSmithModel" "drafted" "I") ∈ TB := TB_mem 910 (by decide +kernel) (by decide +kernel)
set_option maxRecDepth 20000 in
theorem tb911 : (Jvm.Cond.fieldLink "InvoiceSmithModel" (56 : Nat) "InvoiceSmithModel" "draftKinds" "[I") ∈ TB := TB_mem 911 (by decide +kernel) (by decide +kernel)
set_option maxRecDepth 20000 in
theorem tb912 : (Jvm.Cond.fieldLink "InvoiceSmithModel" (59 : Nat) "InvoiceSmithModel" "draftQuantities" "[I") ∈ TB := TB_mem 912 (by decide +kernel) (by decide +kernel)
set_option maxRecDepth 20000 in
theorem tb913 : (Jvm.Cond.fieldLink "InvoiceSmithModel" (62 : Nat) "InvoiceSmithModel" "draftPrices" "[I") ∈ TB := TB_mem 913 (by decide +kernel) (by decide +kernel)
set_option maxRecDepth 20000 in
theorem tb914 : (Jvm.Cond.fieldLink "InvoiceSmithModel" (210 : Nat) "InvoiceSmithModel" "invoices" "I") ∈ TB := TB_mem 914 (by decide +kernel) (by decide +kernel)
set_option maxRecDepth 20000 in
theorem tb915 : (Jvm.Cond.fieldLink "InvoiceSmithModel" (65 : Nat) "InvoiceSmithModel" "clients" "[I") ∈ TB := TB_mem 915 (by decide +kernel) (by decide +kernel)
set_option maxRecDepth 20000 in
theorem tb916 : (Jvm.Cond.fieldLink "InvoiceSmithModel" (68 : Nat) "InvoiceSmithModel" "days" "[I") ∈ TB := TB_mem 916 (by decide +kernel) (by decide +kernel)
set_option maxRecDepth 20000 in
theorem tb917 : (Jvm.Cond.fieldLink "InvoiceSmithModel" (71 : Nat) "InvoiceSmithModel" "many" "[I") ∈ TB := TB_mem 917 (by decide +kernel) (by decide +kernel)
set_option maxRecDepth 20000 in
theorem tb918 : (Jvm.Cond.fieldLink "InvoiceSmithModel" (74 : Nat) "InvoiceSmithModel" "places" "[I") ∈ TB := TB_mem 918 (by decide +kernel) (by decide +kernel)
set_option maxRecDepth 20000 in
theorem tb919 : (Jvm.Cond.fieldLink "InvoiceSmithModel" (77 : Nat) "InvoiceSmithModel" "ways" "[I") ∈ TB := TB_mem 919 (by decide +kernel) (by decide +kernel)
set_option maxRecDepth 20000 in
theorem tb920 : (Jvm.Cond.fieldLink "InvoiceSmithModel" (80 : Nat) "InvoiceSmithModel" "kinds" "[I") ∈ TB := TB_mem 920 (by decide +kernel) (by decide +kernel)
set_option maxRecDepth 20000 in
theorem tb921 : (Jvm.Cond.fieldLink "InvoiceSmithModel" (83 : Nat) "InvoiceSmithModel" "quantities" "[I") ∈ TB := TB_mem 921 (by decide +kernel) (by decide +kernel)
set_option maxRecDepth 20000 in
theorem tb922 : (Jvm.Cond.fieldLink "InvoiceSmithModel" (86 : Nat) "InvoiceSmithModel" "prices" "[I") ∈ TB := TB_mem 922 (by decide +kernel) (by decide +kernel)
set_option maxRecDepth 20000 in
theorem tb923 : (Jvm.Cond.fieldLink "InvoiceSmithModel" (89 : Nat) "InvoiceSmithModel" "used" "[I") ∈ TB := TB_mem 923 (by decide +kernel) (by decide +kernel)
set_option maxRecDepth 20000 in
theorem tb924 : (Jvm.Cond.fieldLink "InvoiceSmithModel" (92 : Nat) "InvoiceSmithModel" "taxes" "[I") ∈ TB := TB_mem 924 (by decide +kernel) (by decide +kernel)
set_option maxRecDepth 20000 in
theorem tb925 : (Jvm.Cond.fieldLink "InvoiceSmithModel" (95 : Nat) "InvoiceSmithModel" "sums" "[I") ∈ TB := TB_mem 925 (by decide +kernel) (by decide +kernel)
set_option maxRecDepth 20000 in
theorem tb926 : (Jvm.Cond.fieldLink "InvoiceSmithModel" (98 : Nat) "InvoiceSmithModel" "lineRates" "[I") ∈ TB := TB_mem 926 (by decide +kernel) (by decide +kernel)
set_option maxRecDepth 20000 in
theorem tb927 : (Jvm.Cond.fieldLink "InvoiceSmithModel" (219 : Nat) "InvoiceSmithModel" "notes" "I") ∈ TB := TB_mem 927 (by decide +kernel) (by decide +kernel)
set_option maxRecDepth 20000 in
theorem tb928 : (Jvm.Cond.fieldLink "InvoiceSmithModel" (101 : Nat) "InvoiceSmithModel" "noteInvoices" "[I") ∈ TB := TB_mem 928 (by decide +kernel) (by decide +kernel)
set_option maxRecDepth 20000 in
theorem tb929 : (Jvm.Cond.fieldLink "InvoiceSmithModel" (104 : Nat) "InvoiceSmithModel" "differences" "[I") ∈ TB := TB_mem 929 (by decide +kernel) (by decide +kernel)
set_option maxRecDepth 20000 in
theorem tb930 : (Jvm.Cond.fieldLink "InvoiceSmithModel" (107 : Nat) "InvoiceSmithModel" "noteDays" "[I") ∈ TB := TB_mem 930 (by decide +kernel) (by decide +kernel)
set_option maxRecDepth 20000 in
theorem tb931 : (Jvm.Cond.fieldLink "InvoiceSmithModel" (234 : Nat) "InvoiceSmithModel" "line" "I") ∈ TB := TB_mem 931 (by decide +kernel) (by decide +kernel)
set_option maxRecDepth 20000 in
theorem tb932 : (Jvm.Cond.fieldLink "InvoiceSmithModel" (264 : Nat) "InvoiceSmithModel" "loop" "I") ∈ TB := TB_mem 932 (by decide +kernel) (by decide +kernel)
set_option maxRecDepth 20000 in
theorem tb933 : (Jvm.Cond.fieldLink "InvoiceSmithModel" (237 : Nat) "InvoiceSmithModel" "written" "I") ∈ TB := TB_mem 933 (by decide +kernel) (by decide +kernel)
set_option maxRecDepth 20000 in
theorem tb934 : (Jvm.Cond.fieldLink "InvoiceSmithModel" (240 : Nat) "InvoiceSmithModel" "wanted" "I") ∈ TB := TB_mem 934 (by decide +kernel) (by decide +kernel)
set_option maxRecDepth 20000 in
theorem tb935 : (Jvm.Cond.fieldLink "InvoiceSmithModel" (243 : Nat) "InvoiceSmithModel" "found" "I") ∈ TB := TB_mem 935 (by decide +kernel) (by decide +kernel)
set_option maxRecDepth 20000 in
theorem tb936 : (Jvm.Cond.fieldLink "InvoiceSmithModel" (249 : Nat) "InvoiceSmithModel" "value" "J") ∈ TB := TB_mem 936 (by decide +kernel) (by decide +kernel)
set_option maxRecDepth 20000 in
theorem tb1039 : (Jvm.Cond.superclass "InvoiceSmithModel" "java/lang/Object") ∈ TB := TB_mem 1039 (by decide +kernel) (by decide +kernel)
set_option maxRecDepth 20000 in
theorem tb1040 : (Jvm.Cond.arrayClass Jvm.ClassFile.FieldType.boolean) ∈ TB := TB_mem 1040 (by decide +kernel) (by decide +kernel)
set_option maxRecDepth 20000 in
theorem tb1041 : (Jvm.Cond.methodLink "InvoiceSmithLaw" (87 : Nat) ({ cls := "InvoiceSmithModel", name := "thrown", desc := "()I" } : Jvm.MethodName)) ∈ TB := TB_mem 1041 (by decide +kernel) (by decide +kernel)
set_option maxRecDepth 20000 in
theorem tb1042 : (Jvm.Cond.instanceMethod ({ cls := "InvoiceSmithModel", name := "thrown", desc := "()I" } : Jvm.MethodName)) ∈ TB := TB_mem 1042 (by decide +kernel) (by decide +kernel)
set_option maxRecDepth 20000 in
theorem tb1043 : (Jvm.Cond.selects "InvoiceSmithModel" ({ cls := "InvoiceSmithModel", name := "thrown", desc := "()I" } : Jvm.MethodName) ({ cls := "InvoiceSmithModel", name := "thrown", desc := "()I" } : Jvm.MethodName)) ∈ TB := TB_mem 1043 (by decide +kernel) (by decide +kernel)
set_option maxRecDepth 20000 in
theorem tb1044 : (Jvm.Cond.code ({ cls := "InvoiceSmithModel", name := "thrown", desc := "()I" } : Jvm.MethodName) prog_10_method_2_code (1 : Nat) (Option.some Jvm.ClassFile.FieldType.int)) ∈ TB := TB_mem 1044 (by decide +kernel) (by decide +kernel)
set_option maxRecDepth 20000 in
theorem tb1045 : (Jvm.Cond.methodLink "InvoiceSmithLaw" (86 : Nat) ({ cls := "InvoiceSmithModel", name := "type", desc := "(J)I" } : Jvm.MethodName)) ∈ TB := TB_mem 1045 (by decide +kernel) (by decide +kernel)
set_option maxRecDepth 20000 in
theorem tb1046 : (Jvm.Cond.instanceMethod ({ cls := "InvoiceSmithModel", name := "type", desc := "(J)I" } : Jvm.MethodName)) ∈ TB := TB_mem 1046 (by decide +kernel) (by decide +kernel)
set_option maxRecDepth 20000 in
theorem tb1047 : (Jvm.Cond.selects "InvoiceSmithModel" ({ cls := "InvoiceSmithModel", name := "type", desc := "(J)I" } : Jvm.MethodName) ({ cls := "InvoiceSmithModel", name := "type", desc := "(J)I" } : Jvm.MethodName)) ∈ TB := TB_mem 1047 (by decide +kernel) (by decide +kernel)
set_option maxRecDepth 20000 in
theorem tb1048 : (Jvm.Cond.code ({ cls := "InvoiceSmithModel", name := "type", desc := "(J)I" } : Jvm.MethodName) prog_10_method_5_code (7 : Nat) (Option.some Jvm.ClassFile.FieldType.int)) ∈ TB := TB_mem 1048 (by decide +kernel) (by decide +kernel)
set_option maxRecDepth 20000 in
theorem tb1049 : (Jvm.Cond.methodLink "InvoiceSmithModel" (116 : Nat) ({ cls := "InvoiceSmithModel", name := "byteOf", desc := "(JI)I" } : Jvm.MethodName)) ∈ TB := TB_mem 1049 (by decide +kernel) (by decide +kernel)
set_option maxRecDepth 20000 in
theorem tb1050 : (Jvm.Cond.static ({ cls := "InvoiceSmithModel", name := "byteOf", desc := "(JI)I" } : Jvm.MethodName)) ∈ TB := TB_mem 1050 (by decide +kernel) (by decide +kernel)
set_option maxRecDepth 20000 in
theorem tb1051 : (Jvm.Cond.code ({ cls := "InvoiceSmithModel", name := "byteOf", desc := "(JI)I" } : Jvm.MethodName) prog_10_method_4_code (3 : Nat) (Option.some Jvm.ClassFile.FieldType.int)) ∈ TB := TB_mem 1051 (by decide +kernel) (by decide +kernel)
set_option maxRecDepth 20000 in
theorem tb1052 : (Jvm.Cond.constantLong "InvoiceSmithModel" (114 : Nat) (255 : Int64)) ∈ TB := TB_mem 1052 (by decide +kernel) (by decide +kernel)
set_option maxRecDepth 20000 in
theorem tb1053 : (Jvm.Cond.methodLink "InvoiceSmithModel" (120 : Nat) ({ cls := "InvoiceSmithModel", name := "isIn", desc := "(III)Z" } : Jvm.MethodName)) ∈ TB := TB_mem 1053 (by decide +kernel) (by decide +kernel)
set_option maxRecDepth 20000 in
theorem tb1054 : (Jvm.Cond.static ({ cls := "InvoiceSmithModel", name := "isIn", desc := "(III)Z" } : Jvm.MethodName)) ∈ TB := TB_mem 1054 (by decide +kernel) (by decide +kernel)
set_option maxRecDepth 20000 in
theorem tb1055 : (Jvm.Cond.code ({ cls := "InvoiceSmithModel", name := "isIn", desc := "(III)Z" } : Jvm.MethodName) prog_10_method_3_code (3 : Nat) (Option.some Jvm.ClassFile.FieldType.boolean)) ∈ TB := TB_mem 1055 (by decide +kernel) (by decide +kernel)
set_option maxRecDepth 20000 in
theorem tb1056 : (Jvm.Cond.methodLink "InvoiceSmithLaw" (94 : Nat) ({ cls := "InvoiceSmithModel", name := "template", desc := "(I)I" } : Jvm.MethodName)) ∈ TB := TB_mem 1056 (by decide +kernel) (by decide +kernel)
set_option maxRecDepth 20000 in
theorem tb1057 : (Jvm.Cond.instanceMethod ({ cls := "InvoiceSmithModel", name := "template", desc := "(I)I" } : Jvm.MethodName)) ∈ TB := TB_mem 1057 (by decide +kernel) (by decide +kernel)
set_option maxRecDepth 20000 in
theorem tb1058 : (Jvm.Cond.selects "InvoiceSmithModel" ({ cls := "InvoiceSmithModel", name := "template", desc := "(I)I" } : Jvm.MethodName) ({ cls := "InvoiceSmithModel", name := "template", desc := "(I)I" } : Jvm.MethodName)) ∈ TB := TB_mem 1058 (by decide +kernel) (by decide +kernel)
set_option maxRecDepth 20000 in
theorem tb1059 : (Jvm.Cond.code ({ cls := "InvoiceSmithModel", name := "template", desc := "(I)I" } : Jvm.MethodName) prog_10_method_19_code (4 : Nat) (Option.some Jvm.ClassFile.FieldType.int)) ∈ TB := TB_mem 1059 (by decide +kernel) (by decide +kernel)
set_option maxRecDepth 20000 in
theorem tb1060 : (Jvm.Cond.methodLink "InvoiceSmithModel" (184 : Nat) ({ cls := "InvoiceSmithModel", name := "reads", desc := "(I)V" } : Jvm.MethodName)) ∈ TB := TB_mem 1060 (by decide +kernel) (by decide +kernel)
set_option maxRecDepth 20000 in
theorem tb1062 : (Jvm.Cond.instanceMethod ({ cls := "InvoiceSmithModel", name := "reads", desc := "(I)V" } : Jvm.MethodName)) ∈ TB := TB_mem 1062 (by decide +kernel) (by decide +kernel)
set_option maxRecDepth 20000 in
theorem tb1063 : (Jvm.Cond.code ({ cls := "InvoiceSmithModel", name := "reads", desc := "(I)V" } : Jvm.MethodName) prog_10_method_18_code (5 : Nat) (Option.none : Option Jvm.ClassFile.FieldType)) ∈ TB := TB_mem 1063 (by decide +kernel) (by decide +kernel)
set_option maxRecDepth 20000 in
theorem tb1064 : (Jvm.Cond.methodLink "InvoiceSmithModel" (175 : Nat) ({ cls := "InvoiceSmithModel", name := "brace", desc := "(I)V" } : Jvm.MethodName)) ∈ TB := TB_mem 1064 (by decide +kernel) (by decide +kernel)
set_option maxRecDepth 20000 in
theorem tb1066 : (Jvm.Cond.instanceMethod ({ cls := "InvoiceSmithModel", name := "brace", desc := "(I)V" } : Jvm.MethodName)) ∈ TB := TB_mem 1066 (by decide +kernel) (by decide +kernel)
set_option maxRecDepth 20000 in
theorem tb1067 : (Jvm.Cond.code ({ cls := "InvoiceSmithModel", name := "brace", desc := "(I)V" } : Jvm.MethodName) prog_10_method_16_code (4 : Nat) (Option.none : Option Jvm.ClassFile.FieldType)) ∈ TB := TB_mem 1067 (by decide +kernel) (by decide +kernel)
set_option maxRecDepth 20000 in
theorem tb1068 : (Jvm.Cond.methodLink "InvoiceSmithModel" (137 : Nat) ({ cls := "InvoiceSmithModel", name := "sign", desc := "(I)I" } : Jvm.MethodName)) ∈ TB := TB_mem 1068 (by decide +kernel) (by decide +kernel)
set_option maxRecDepth 20000 in
theorem tb1070 : (Jvm.Cond.instanceMethod ({ cls := "InvoiceSmithModel", name := "sign", desc := "(I)I" } : Jvm.MethodName)) ∈ TB := TB_mem 1070 (by decide +kernel) (by decide +kernel)
set_option maxRecDepth 20000 in
theorem tb1071 : (Jvm.Cond.code ({ cls := "InvoiceSmithModel", name := "sign", desc := "(I)I" } : Jvm.MethodName) prog_10_method_6_code (2 : Nat) (Option.some Jvm.ClassFile.FieldType.int)) ∈ TB := TB_mem 1071 (by decide +kernel) (by decide +kernel)
set_option maxRecDepth 20000 in
theorem tb1072 : (Jvm.Cond.methodLink "InvoiceSmithModel" (130 : Nat) ({ cls := "InvoiceSmithModel", name := "isInLoop", desc := "()Z" } : Jvm.MethodName)) ∈ TB := TB_mem 1072 (by decide +kernel) (by decide +kernel)
set_option maxRecDepth 20000 in
theorem tb1074 : (Jvm.Cond.instanceMethod ({ cls := "InvoiceSmithModel", name := "isInLoop", desc := "()Z" } : Jvm.MethodName)) ∈ TB := TB_mem 1074 (by decide +kernel) (by decide +kernel)
set_option maxRecDepth 20000 in
theorem tb1075 : (Jvm.Cond.code ({ cls := "InvoiceSmithModel", name := "isInLoop", desc := "()Z" } : Jvm.MethodName) prog_10_method_7_code (3 : Nat) (Option.some Jvm.ClassFile.FieldType.boolean)) ∈ TB := TB_mem 1075 (by decide +kernel) (by decide +kernel)
set_option maxRecDepth 20000 in
theorem tb1076 : (Jvm.Cond.methodLink "InvoiceSmithModel" (164 : Nat) ({ cls := "InvoiceSmithModel", name := "opens", desc := "(ZI)V" } : Jvm.MethodName)) ∈ TB := TB_mem 1076 (by decide +kernel) (by decide +kernel)
set_option maxRecDepth 20000 in
theorem tb1078 : (Jvm.Cond.instanceMethod ({ cls := "InvoiceSmithModel", name := "opens", desc := "(ZI)V" } : Jvm.MethodName)) ∈ TB := TB_mem 1078 (by decide +kernel) (by decide +kernel)
set_option maxRecDepth 20000 in
theorem tb1079 : (Jvm.Cond.code ({ cls := "InvoiceSmithModel", name := "opens", desc := "(ZI)V" } : Jvm.MethodName) prog_10_method_13_code (3 : Nat) (Option.none : Option Jvm.ClassFile.FieldType)) ∈ TB := TB_mem 1079 (by decide +kernel) (by decide +kernel)
set_option maxRecDepth 20000 in
theorem tb1080 : (Jvm.Cond.methodLink "InvoiceSmithModel" (168 : Nat) ({ cls := "InvoiceSmithModel", name := "choice", desc := "(I)V" } : Jvm.MethodName)) ∈ TB := TB_mem 1080 (by decide +kernel) (by decide +kernel)
set_option maxRecDepth 20000 in
theorem tb1082 : (Jvm.Cond.instanceMethod ({ cls := "InvoiceSmithModel", name := "choice", desc := "(I)V" } : Jvm.MethodName)) ∈ TB := TB_mem 1082 (by decide +kernel) (by decide +kernel)
set_option maxRecDepth 20000 in
theorem tb1083 : (Jvm.Cond.code ({ cls := "InvoiceSmithModel", name := "choice", desc := "(I)V" } : Jvm.MethodName) prog_10_method_14_code (2 : Nat) (Option.none : Option Jvm.ClassFile.FieldType)) ∈ TB := TB_mem 1083 (by decide +kernel) (by decide +kernel)
set_option maxRecDepth 20000 in
theorem tb1084 : (Jvm.Cond.methodLink "InvoiceSmithModel" (157 : Nat) ({ cls := "InvoiceSmithModel", name := "sum", desc := "()V" } : Jvm.MethodName)) ∈ TB := TB_mem 1084 (by decide +kernel) (by decide +kernel)
set_option maxRecDepth 20000 in
theorem tb1086 : (Jvm.Cond.instanceMethod ({ cls := "InvoiceSmithModel", name := "sum", desc := "()V" } : Jvm.MethodName)) ∈ TB := TB_mem 1086 (by decide +kernel) (by decide +kernel)
set_option maxRecDepth 20000 in
theorem tb1087 : (Jvm.Cond.code ({ cls := "InvoiceSmithModel", name := "sum", desc := "()V" } : Jvm.MethodName) prog_10_method_11_code (1 : Nat) (Option.none : Option Jvm.ClassFile.FieldType)) ∈ TB := TB_mem 1087 (by decide +kernel) (by decide +kernel)
set_option maxRecDepth 20000 in
theorem tb1088 : (Jvm.Cond.methodLink "InvoiceSmithModel" (151 : Nat) ({ cls := "InvoiceSmithModel", name := "term", desc := "()V" } : Jvm.MethodName)) ∈ TB := TB_mem 1088 (by decide +kernel) (by decide +kernel)
set_option maxRecDepth 20000 in
theorem tb1090 : (Jvm.Cond.instanceMethod ({ cls := "InvoiceSmithModel", name := "term", desc := "()V" } : Jvm.MethodName)) ∈ TB := TB_mem 1090 (by decide +kernel) (by decide +kernel)
set_option maxRecDepth 20000 in
theorem tb1091 : (Jvm.Cond.code ({ cls := "InvoiceSmithModel", name := "term", desc := "()V" } : Jvm.MethodName) prog_10_method_10_code (2 : Nat) (Option.none : Option Jvm.ClassFile.FieldType)) ∈ TB := TB_mem 1091 (by decide +kernel) (by decide +kernel)
set_option maxRecDepth 20000 in
theorem tb1092 : (Jvm.Cond.methodLink "InvoiceSmithModel" (141 : Nat) ({ cls := "InvoiceSmithModel", name := "isDigit", desc := "(I)Z" } : Jvm.MethodName)) ∈ TB := TB_mem 1092 (by decide +kernel) (by decide +kernel)
set_option maxRecDepth 20000 in
theorem tb1093 : (Jvm.Cond.static ({ cls := "InvoiceSmithModel", name := "isDigit", desc := "(I)Z" } : Jvm.MethodName)) ∈ TB := TB_mem 1093 (by decide +kernel) (by decide +kernel)
set_option maxRecDepth 20000 in
theorem tb1094 : (Jvm.Cond.code ({ cls := "InvoiceSmithModel", name := "isDigit", desc := "(I)Z" } : Jvm.MethodName) prog_10_method_9_code (1 : Nat) (Option.some Jvm.ClassFile.FieldType.boolean)) ∈ TB := TB_mem 1094 (by decide +kernel) (by decide +kernel)
set_option maxRecDepth 20000 in
theorem tb1095 : (Jvm.Cond.methodLink "InvoiceSmithModel" (145 : Nat) ({ cls := "InvoiceSmithModel", name := "isName", desc := "(I)Z" } : Jvm.MethodName)) ∈ TB := TB_mem 1095 (by decide +kernel) (by decide +kernel)
set_option maxRecDepth 20000 in
theorem tb1097 : (Jvm.Cond.instanceMethod ({ cls := "InvoiceSmithModel", name := "isName", desc := "(I)Z" } : Jvm.MethodName)) ∈ TB := TB_mem 1097 (by decide +kernel) (by decide +kernel)
set_option maxRecDepth 20000 in
theorem tb1098 : (Jvm.Cond.code ({ cls := "InvoiceSmithModel", name := "isName", desc := "(I)Z" } : Jvm.MethodName) prog_10_method_8_code (3 : Nat) (Option.some Jvm.ClassFile.FieldType.boolean)) ∈ TB := TB_mem 1098 (by decide +kernel) (by decide +kernel)
set_option maxRecDepth 20000 in
theorem tb1099 : (Jvm.Cond.methodLink "InvoiceSmithModel" (160 : Nat) ({ cls := "InvoiceSmithModel", name := "expects", desc := "(Z)V" } : Jvm.MethodName)) ∈ TB := TB_mem 1099 (by decide +kernel) (by decide +kernel)
set_option maxRecDepth 20000 in
theorem tb1101 : (Jvm.Cond.instanceMethod ({ cls := "InvoiceSmithModel", name := "expects", desc := "(Z)V" } : Jvm.MethodName)) ∈ TB := TB_mem 1101 (by decide +kernel) (by decide +kernel)
set_option maxRecDepth 20000 in
theorem tb1102 : (Jvm.Cond.code ({ cls := "InvoiceSmithModel", name := "expects", desc := "(Z)V" } : Jvm.MethodName) prog_10_method_12_code (2 : Nat) (Option.none : Option Jvm.ClassFile.FieldType)) ∈ TB := TB_mem 1102 (by decide +kernel) (by decide +kernel)
set_option maxRecDepth 20000 in
theorem tb1103 : (Jvm.Cond.methodLink "InvoiceSmithModel" (172 : Nat) ({ cls := "InvoiceSmithModel", name := "field", desc := "()V" } : Jvm.MethodName)) ∈ TB := TB_mem 1103 (by decide +kernel) (by decide +kernel)
set_option maxRecDepth 20000 in
theorem tb1105 : (Jvm.Cond.instanceMethod ({ cls := "InvoiceSmithModel", name := "field", desc := "()V" } : Jvm.MethodName)) ∈ TB := TB_mem 1105 (by decide +kernel) (by decide +kernel)
set_option maxRecDepth 20000 in
theorem tb1106 : (Jvm.Cond.code ({ cls := "InvoiceSmithModel", name := "field", desc := "()V" } : Jvm.MethodName) prog_10_method_15_code (1 : Nat) (Option.none : Option Jvm.ClassFile.FieldType)) ∈ TB := TB_mem 1106 (by decide +kernel) (by decide +kernel)
set_option maxRecDepth 20000 in
theorem tb1107 : (Jvm.Cond.methodLink "InvoiceSmithModel" (178 : Nat) ({ cls := "InvoiceSmithModel", name := "closes", desc := "(I)V" } : Jvm.MethodName)) ∈ TB := TB_mem 1107 (by decide +kernel) (by decide +kernel)
set_option maxRecDepth 20000 in
theorem tb1109 : (Jvm.Cond.instanceMethod ({ cls := "InvoiceSmithModel", name := "closes", desc := "(I)V" } : Jvm.MethodName)) ∈ TB := TB_mem 1109 (by decide +kernel) (by decide +kernel)
set_option maxRecDepth 20000 in
theorem tb1110 : (Jvm.Cond.code ({ cls := "InvoiceSmithModel", name := "closes", desc := "(I)V" } : Jvm.MethodName) prog_10_method_17_code (3 : Nat) (Option.none : Option Jvm.ClassFile.FieldType)) ∈ TB := TB_mem 1110 (by decide +kernel) (by decide +kernel)
set_option maxRecDepth 20000 in
theorem tb1111 : (Jvm.Cond.methodLink "InvoiceSmithLaw" (97 : Nat) ({ cls := "InvoiceSmithModel", name := "pass", desc := "(I)I" } : Jvm.MethodName)) ∈ TB := TB_mem 1111 (by decide +kernel) (by decide +kernel)
set_option maxRecDepth 20000 in
theorem tb1112 : (Jvm.Cond.instanceMethod ({ cls := "InvoiceSmithModel", name := "pass", desc := "(I)I" } : Jvm.MethodName)) ∈ TB := TB_mem 1112 (by decide +kernel) (by decide +kernel)
set_option maxRecDepth 20000 in
theorem tb1113 : (Jvm.Cond.selects "InvoiceSmithModel" ({ cls := "InvoiceSmithModel", name := "pass", desc := "(I)I" } : Jvm.MethodName) ({ cls := "InvoiceSmithModel", name := "pass", desc := "(I)I" } : Jvm.MethodName)) ∈ TB := TB_mem 1113 (by decide +kernel) (by decide +kernel)
set_option maxRecDepth 20000 in
theorem tb1114 : (Jvm.Cond.code ({ cls := "InvoiceSmithModel", name := "pass", desc := "(I)I" } : Jvm.MethodName) prog_10_method_20_code (2 : Nat) (Option.some Jvm.ClassFile.FieldType.int)) ∈ TB := TB_mem 1114 (by decide +kernel) (by decide +kernel)
set_option maxRecDepth 20000 in
theorem tb1115 : (Jvm.Cond.methodLink "InvoiceSmithLaw" (101 : Nat) ({ cls := "InvoiceSmithModel", name := "rate", desc := "(IIII)I" } : Jvm.MethodName)) ∈ TB := TB_mem 1115 (by decide +kernel) (by decide +kernel)
set_option maxRecDepth 20000 in
theorem tb1116 : (Jvm.Cond.instanceMethod ({ cls := "InvoiceSmithModel", name := "rate", desc := "(IIII)I" } : Jvm.MethodName)) ∈ TB := TB_mem 1116 (by decide +kernel) (by decide +kernel)
set_option maxRecDepth 20000 in
theorem tb1117 : (Jvm.Cond.selects "InvoiceSmithModel" ({ cls := "InvoiceSmithModel", name := "rate", desc := "(IIII)I" } : Jvm.MethodName) ({ cls := "InvoiceSmithModel", name := "rate", desc := "(IIII)I" } : Jvm.MethodName)) ∈ TB := TB_mem 1117 (by decide +kernel) (by decide +kernel)
set_option maxRecDepth 20000 in
theorem tb1118 : (Jvm.Cond.code ({ cls := "InvoiceSmithModel", name := "rate", desc := "(IIII)I" } : Jvm.MethodName) prog_10_method_22_code (7 : Nat) (Option.some Jvm.ClassFile.FieldType.int)) ∈ TB := TB_mem 1118 (by decide +kernel) (by decide +kernel)
set_option maxRecDepth 20000 in
theorem tb1119 : (Jvm.Cond.methodLink "InvoiceSmithModel" (190 : Nat) ({ cls := "InvoiceSmithModel", name := "isFour", desc := "(I)Z" } : Jvm.MethodName)) ∈ TB := TB_mem 1119 (by decide +kernel) (by decide +kernel)
set_option maxRecDepth 20000 in
theorem tb1120 : (Jvm.Cond.static ({ cls := "InvoiceSmithModel", name := "isFour", desc := "(I)Z" } : Jvm.MethodName)) ∈ TB := TB_mem 1120 (by decide +kernel) (by decide +kernel)
set_option maxRecDepth 20000 in
theorem tb1121 : (Jvm.Cond.code ({ cls := "InvoiceSmithModel", name := "isFour", desc := "(I)Z" } : Jvm.MethodName) prog_10_method_21_code (1 : Nat) (Option.some Jvm.ClassFile.FieldType.boolean)) ∈ TB := TB_mem 1121 (by decide +kernel) (by decide +kernel)
set_option maxRecDepth 20000 in
theorem tb1122 : (Jvm.Cond.methodLink "InvoiceSmithLaw" (105 : Nat) ({ cls := "InvoiceSmithModel", name := "telling", desc := "(III)I" } : Jvm.MethodName)) ∈ TB := TB_mem 1122 (by decide +kernel) (by decide +kernel)
set_option maxRecDepth 20000 in
theorem tb1123 : (Jvm.Cond.instanceMethod ({ cls := "InvoiceSmithModel", name := "telling", desc := "(III)I" } : Jvm.MethodName)) ∈ TB := TB_mem 1123 (by decide +kernel) (by decide +kernel)
set_option maxRecDepth 20000 in
theorem tb1124 : (Jvm.Cond.selects "InvoiceSmithModel" ({ cls := "InvoiceSmithModel", name := "telling", desc := "(III)I" } : Jvm.MethodName) ({ cls := "InvoiceSmithModel", name := "telling", desc := "(III)I" } : Jvm.MethodName)) ∈ TB := TB_mem 1124 (by decide +kernel) (by decide +kernel)
set_option maxRecDepth 20000 in
theorem tb1125 : (Jvm.Cond.code ({ cls := "InvoiceSmithModel", name := "telling", desc := "(III)I" } : Jvm.MethodName) prog_10_method_24_code (5 : Nat) (Option.some Jvm.ClassFile.FieldType.int)) ∈ TB := TB_mem 1125 (by decide +kernel) (by decide +kernel)
set_option maxRecDepth 20000 in
theorem tb1126 : (Jvm.Cond.methodLink "InvoiceSmithModel" (196 : Nat) ({ cls := "InvoiceSmithModel", name := "tellingOf", desc := "(III)I" } : Jvm.MethodName)) ∈ TB := TB_mem 1126 (by decide +kernel) (by decide +kernel)
set_option maxRecDepth 20000 in
theorem tb1128 : (Jvm.Cond.instanceMethod ({ cls := "InvoiceSmithModel", name := "tellingOf", desc := "(III)I" } : Jvm.MethodName)) ∈ TB := TB_mem 1128 (by decide +kernel) (by decide +kernel)
set_option maxRecDepth 20000 in
theorem tb1129 : (Jvm.Cond.code ({ cls := "InvoiceSmithModel", name := "tellingOf", desc := "(III)I" } : Jvm.MethodName) prog_10_method_23_code (7 : Nat) (Option.some Jvm.ClassFile.FieldType.int)) ∈ TB := TB_mem 1129 (by decide +kernel) (by decide +kernel)
set_option maxRecDepth 20000 in
theorem tb1130 : (Jvm.Cond.methodLink "InvoiceSmithLaw" (109 : Nat) ({ cls := "InvoiceSmithModel", name := "round", desc := "(II)I" } : Jvm.MethodName)) ∈ TB := TB_mem 1130 (by decide +kernel) (by decide +kernel)
set_option maxRecDepth 20000 in
theorem tb1131 : (Jvm.Cond.instanceMethod ({ cls := "InvoiceSmithModel", name := "round", desc := "(II)I" } : Jvm.MethodName)) ∈ TB := TB_mem 1131 (by decide +kernel) (by decide +kernel)
set_option maxRecDepth 20000 in
theorem tb1132 : (Jvm.Cond.selects "InvoiceSmithModel" ({ cls := "InvoiceSmithModel", name := "round", desc := "(II)I" } : Jvm.MethodName) ({ cls := "InvoiceSmithModel", name := "round", desc := "(II)I" } : Jvm.MethodName)) ∈ TB := TB_mem 1132 (by decide +kernel) (by decide +kernel)
set_option maxRecDepth 20000 in
theorem tb1133 : (Jvm.Cond.code ({ cls := "InvoiceSmithModel", name := "round", desc := "(II)I" } : Jvm.MethodName) prog_10_method_25_code (4 : Nat) (Option.some Jvm.ClassFile.FieldType.int)) ∈ TB := TB_mem 1133 (by decide +kernel) (by decide +kernel)
set_option maxRecDepth 20000 in
theorem tb1134 : (Jvm.Cond.methodLink "InvoiceSmithLaw" (112 : Nat) ({ cls := "InvoiceSmithModel", name := "client", desc := "(II)I" } : Jvm.MethodName)) ∈ TB := TB_mem 1134 (by decide +kernel) (by decide +kernel)
set_option maxRecDepth 20000 in
theorem tb1135 : (Jvm.Cond.instanceMethod ({ cls := "InvoiceSmithModel", name := "client", desc := "(II)I" } : Jvm.MethodName)) ∈ TB := TB_mem 1135 (by decide +kernel) (by decide +kernel)
set_option maxRecDepth 20000 in
theorem tb1136 : (Jvm.Cond.selects "InvoiceSmithModel" ({ cls := "InvoiceSmithModel", name := "client", desc := "(II)I" } : Jvm.MethodName) ({ cls := "InvoiceSmithModel", name := "client", desc := "(II)I" } : Jvm.MethodName)) ∈ TB := TB_mem 1136 (by decide +kernel) (by decide +kernel)
set_option maxRecDepth 20000 in
theorem tb1137 : (Jvm.Cond.code ({ cls := "InvoiceSmithModel", name := "client", desc := "(II)I" } : Jvm.MethodName) prog_10_method_26_code (4 : Nat) (Option.some Jvm.ClassFile.FieldType.int)) ∈ TB := TB_mem 1137 (by decide +kernel) (by decide +kernel)
set_option maxRecDepth 20000 in
theorem tb1138 : (Jvm.Cond.methodLink "InvoiceSmithLaw" (115 : Nat) ({ cls := "InvoiceSmithModel", name := "line", desc := "(III)I" } : Jvm.MethodName)) ∈ TB := TB_mem 1138 (by decide +kernel) (by decide +kernel)
set_option maxRecDepth 20000 in
theorem tb1139 : (Jvm.Cond.instanceMethod ({ cls := "InvoiceSmithModel", name := "line", desc := "(III)I" } : Jvm.MethodName)) ∈ TB := TB_mem 1139 (by decide +kernel) (by decide +kernel)
