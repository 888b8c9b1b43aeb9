set_option maxRecDepth 20000 in
theorem tb562 : (Jvm.Cond.superclass "java/lang/IllegalArgumentException" "java/lang/RuntimeException") ∈ TB := TB_mem 562 (by decide +kernel) (by decide +kernel)
set_option maxRecDepth 20000 in
theorem tb563 : (Jvm.Cond.methodLink "InvoiceSmithLaw" (63 : Nat) ({ cls := "InvoiceSmith", name := "rate", desc := "(IIII)I" } : Jvm.MethodName)) ∈ TB := TB_mem 563 (by decide +kernel) (by decide +kernel)
set_option maxRecDepth 20000 in
theorem tb564 : (Jvm.Cond.instanceMethod ({ cls := "InvoiceSmith", name := "rate", desc := "(IIII)I" } : Jvm.MethodName)) ∈ TB := TB_mem 564 (by decide +kernel) (by decide +kernel)
set_option maxRecDepth 20000 in
theorem tb565 : (Jvm.Cond.selects "InvoiceSmith" ({ cls := "InvoiceSmith", name := "rate", desc := "(IIII)I" } : Jvm.MethodName) ({ cls := "InvoiceSmith", name := "rate", desc := "(IIII)I" } : Jvm.MethodName)) ∈ TB := TB_mem 565 (by decide +kernel) (by decide +kernel)
set_option maxRecDepth 20000 in
theorem tb566 : (Jvm.Cond.code ({ cls := "InvoiceSmith", name := "rate", desc := "(IIII)I" } : Jvm.MethodName) prog_1_method_5_code (5 : Nat) (Option.some Jvm.ClassFile.FieldType.int)) ∈ TB := TB_mem 566 (by decide +kernel) (by decide +kernel)
set_option maxRecDepth 20000 in
theorem tb567 : (Jvm.Cond.methodLink "InvoiceSmith" (118 : Nat) ({ cls := "InvoiceSmith", name := "checkPlace", desc := "(I)V" } : Jvm.MethodName)) ∈ TB := TB_mem 567 (by decide +kernel) (by decide +kernel)
set_option maxRecDepth 20000 in
theorem tb568 : (Jvm.Cond.static ({ cls := "InvoiceSmith", name := "checkPlace", desc := "(I)V" } : Jvm.MethodName)) ∈ TB := TB_mem 568 (by decide +kernel) (by decide +kernel)
set_option maxRecDepth 20000 in
theorem tb569 : (Jvm.Cond.code ({ cls := "InvoiceSmith", name := "checkPlace", desc := "(I)V" } : Jvm.MethodName) prog_1_method_21_code (1 : Nat) (Option.none : Option Jvm.ClassFile.FieldType)) ∈ TB := TB_mem 569 (by decide +kernel) (by decide +kernel)
set_option maxRecDepth 20000 in
theorem tb571 : (Jvm.Cond.methodLink "InvoiceSmith" (122 : Nat) ({ cls := "InvoiceSmith", name := "checkKind", desc := "(I)V" } : Jvm.MethodName)) ∈ TB := TB_mem 571 (by decide +kernel) (by decide +kernel)
set_option maxRecDepth 20000 in
theorem tb572 : (Jvm.Cond.static ({ cls := "InvoiceSmith", name := "checkKind", desc := "(I)V" } : Jvm.MethodName)) ∈ TB := TB_mem 572 (by decide +kernel) (by decide +kernel)
set_option maxRecDepth 20000 in
theorem tb573 : (Jvm.Cond.code ({ cls := "InvoiceSmith", name := "checkKind", desc := "(I)V" } : Jvm.MethodName) prog_1_method_22_code (1 : Nat) (Option.none : Option Jvm.ClassFile.FieldType)) ∈ TB := TB_mem 573 (by decide +kernel) (by decide +kernel)
set_option maxRecDepth 20000 in
theorem tn577 : (Jvm.Cond.methodLinkNest "InvoiceSmith" (132 : Nat) ({ cls := "InvoiceSmith$Rates", name := "tell", desc := "(IIII)I" } : Jvm.MethodName) "InvoiceSmith") ∈ TN := TN_mem 577 (by decide +kernel) (by decide +kernel)
set_option maxRecDepth 20000 in
theorem tb579 : (Jvm.Cond.instanceMethod ({ cls := "InvoiceSmith$Rates", name := "tell", desc := "(IIII)I" } : Jvm.MethodName)) ∈ TB := TB_mem 579 (by decide +kernel) (by decide +kernel)
set_option maxRecDepth 20000 in
theorem tb580 : (Jvm.Cond.code ({ cls := "InvoiceSmith$Rates", name := "tell", desc := "(IIII)I" } : Jvm.MethodName) prog_6_method_2_code (6 : Nat) (Option.some Jvm.ClassFile.FieldType.int)) ∈ TB := TB_mem 580 (by decide +kernel) (by decide +kernel)
set_option maxRecDepth 20000 in
theorem tn581 : (Jvm.Cond.methodLinkNest "InvoiceSmith$Rates" (28 : Nat) ({ cls := "InvoiceSmith", name := "set", desc := "([III)V" } : Jvm.MethodName) "InvoiceSmith") ∈ TN := TN_mem 581 (by decide +kernel) (by decide +kernel)
set_option maxRecDepth 20000 in
theorem tb582 : (Jvm.Cond.methodLink "InvoiceSmithLaw" (117 : Nat) ({ cls := "InvoiceSmith", name := "telling", desc := "(III)I" } : Jvm.MethodName)) ∈ TB := TB_mem 582 (by decide +kernel) (by decide +kernel)
set_option maxRecDepth 20000 in
theorem tb583 : (Jvm.Cond.instanceMethod ({ cls := "InvoiceSmith", name := "telling", desc := "(III)I" } : Jvm.MethodName)) ∈ TB := TB_mem 583 (by decide +kernel) (by decide +kernel)
set_option maxRecDepth 20000 in
theorem tb584 : (Jvm.Cond.selects "InvoiceSmith" ({ cls := "InvoiceSmith", name := "telling", desc := "(III)I" } : Jvm.MethodName) ({ cls := "InvoiceSmith", name := "telling", desc := "(III)I" } : Jvm.MethodName)) ∈ TB := TB_mem 584 (by decide +kernel) (by decide +kernel)
set_option maxRecDepth 20000 in
theorem tb585 : (Jvm.Cond.code ({ cls := "InvoiceSmith", name := "telling", desc := "(III)I" } : Jvm.MethodName) prog_1_method_6_code (4 : Nat) (Option.some Jvm.ClassFile.FieldType.int)) ∈ TB := TB_mem 585 (by decide +kernel) (by decide +kernel)
set_option maxRecDepth 20000 in
theorem tn587 : (Jvm.Cond.methodLinkNest "InvoiceSmith" (138 : Nat) ({ cls := "InvoiceSmith$Rates", name := "known", desc := "(III)I" } : Jvm.MethodName) "InvoiceSmith") ∈ TN := TN_mem 587 (by decide +kernel) (by decide +kernel)
set_option maxRecDepth 20000 in
theorem tb589 : (Jvm.Cond.instanceMethod ({ cls := "InvoiceSmith$Rates", name := "known", desc := "(III)I" } : Jvm.MethodName)) ∈ TB := TB_mem 589 (by decide +kernel) (by decide +kernel)
set_option maxRecDepth 20000 in
theorem tb590 : (Jvm.Cond.code ({ cls := "InvoiceSmith$Rates", name := "known", desc := "(III)I" } : Jvm.MethodName) prog_6_method_3_code (8 : Nat) (Option.some Jvm.ClassFile.FieldType.int)) ∈ TB := TB_mem 590 (by decide +kernel) (by decide +kernel)
set_option maxRecDepth 20000 in
theorem tn591 : (Jvm.Cond.methodLinkNest "InvoiceSmith$Rates" (32 : Nat) ({ cls := "InvoiceSmith", name := "get", desc := "([II)I" } : Jvm.MethodName) "InvoiceSmith") ∈ TN := TN_mem 591 (by decide +kernel) (by decide +kernel)
set_option maxRecDepth 20000 in
theorem tb592 : (Jvm.Cond.methodLink "InvoiceSmithLaw" (70 : Nat) ({ cls := "InvoiceSmith", name := "round", desc := "(II)I" } : Jvm.MethodName)) ∈ TB := TB_mem 592 (by decide +kernel) (by decide +kernel)
set_option maxRecDepth 20000 in
theorem tb593 : (Jvm.Cond.instanceMethod ({ cls := "InvoiceSmith", name := "round", desc := "(II)I" } : Jvm.MethodName)) ∈ TB := TB_mem 593 (by decide +kernel) (by decide +kernel)
set_option maxRecDepth 20000 in
theorem tb594 : (Jvm.Cond.selects "InvoiceSmith" ({ cls := "InvoiceSmith", name := "round", desc := "(II)I" } : Jvm.MethodName) ({ cls := "InvoiceSmith", name := "round", desc := "(II)I" } : Jvm.MethodName)) ∈ TB := TB_mem 594 (by decide +kernel) (by decide +kernel)
set_option maxRecDepth 20000 in
theorem tb595 : (Jvm.Cond.code ({ cls := "InvoiceSmith", name := "round", desc := "(II)I" } : Jvm.MethodName) prog_1_method_7_code (4 : Nat) (Option.some Jvm.ClassFile.FieldType.int)) ∈ TB := TB_mem 595 (by decide +kernel) (by decide +kernel)
set_option maxRecDepth 20000 in
theorem tb597 : (Jvm.Cond.methodLink "InvoiceSmith" (144 : Nat) ({ cls := "InvoiceSmith", name := "get", desc := "([II)I" } : Jvm.MethodName)) ∈ TB := TB_mem 597 (by decide +kernel) (by decide +kernel)
set_option maxRecDepth 20000 in
theorem tb598 : (Jvm.Cond.methodLink "InvoiceSmith" (148 : Nat) ({ cls := "InvoiceSmith", name := "set", desc := "([III)V" } : Jvm.MethodName)) ∈ TB := TB_mem 598 (by decide +kernel) (by decide +kernel)
set_option maxRecDepth 20000 in
theorem tb599 : (Jvm.Cond.methodLink "InvoiceSmithLaw" (73 : Nat) ({ cls := "InvoiceSmith", name := "client", desc := "(II)I" } : Jvm.MethodName)) ∈ TB := TB_mem 599 (by decide +kernel) (by decide +kernel)
set_option maxRecDepth 20000 in
theorem tb600 : (Jvm.Cond.instanceMethod ({ cls := "InvoiceSmith", name := "client", desc := "(II)I" } : Jvm.MethodName)) ∈ TB := TB_mem 600 (by decide +kernel) (by decide +kernel)
set_option maxRecDepth 20000 in
theorem tb601 : (Jvm.Cond.selects "InvoiceSmith" ({ cls := "InvoiceSmith", name := "client", desc := "(II)I" } : Jvm.MethodName) ({ cls := "InvoiceSmith", name := "client", desc := "(II)I" } : Jvm.MethodName)) ∈ TB := TB_mem 601 (by decide +kernel) (by decide +kernel)
set_option maxRecDepth 20000 in
theorem tb602 : (Jvm.Cond.code ({ cls := "InvoiceSmith", name := "client", desc := "(II)I" } : Jvm.MethodName) prog_1_method_8_code (4 : Nat) (Option.some Jvm.ClassFile.FieldType.int)) ∈ TB := TB_mem 602 (by decide +kernel) (by decide +kernel)
set_option maxRecDepth 20000 in
theorem tb603 : (Jvm.Cond.methodLink "InvoiceSmith" (152 : Nat) ({ cls := "InvoiceSmith", name := "checkClient", desc := "(I)V" } : Jvm.MethodName)) ∈ TB := TB_mem 603 (by decide +kernel) (by decide +kernel)
set_option maxRecDepth 20000 in
theorem tb604 : (Jvm.Cond.static ({ cls := "InvoiceSmith", name := "checkClient", desc := "(I)V" } : Jvm.MethodName)) ∈ TB := TB_mem 604 (by decide +kernel) (by decide +kernel)
set_option maxRecDepth 20000 in
theorem tb605 : (Jvm.Cond.code ({ cls := "InvoiceSmith", name := "checkClient", desc := "(I)V" } : Jvm.MethodName) prog_1_method_23_code (1 : Nat) (Option.none : Option Jvm.ClassFile.FieldType)) ∈ TB := TB_mem 605 (by decide +kernel) (by decide +kernel)
set_option maxRecDepth 20000 in
theorem tb607 : (Jvm.Cond.methodLink "InvoiceSmithLaw" (76 : Nat) ({ cls := "InvoiceSmith", name := "line", desc := "(III)I" } : Jvm.MethodName)) ∈ TB := TB_mem 607 (by decide +kernel) (by decide +kernel)
set_option maxRecDepth 20000 in
theorem tb608 : (Jvm.Cond.instanceMethod ({ cls := "InvoiceSmith", name := "line", desc := "(III)I" } : Jvm.MethodName)) ∈ TB := TB_mem 608 (by decide +kernel) (by decide +kernel)
set_option maxRecDepth 20000 in
theorem tb609 : (Jvm.Cond.selects "InvoiceSmith" ({ cls := "InvoiceSmith", name := "line", desc := "(III)I" } : Jvm.MethodName) ({ cls := "InvoiceSmith", name := "line", desc := "(III)I" } : Jvm.MethodName)) ∈ TB := TB_mem 609 (by decide +kernel) (by decide +kernel)
set_option maxRecDepth 20000 in
theorem tb610 : (Jvm.Cond.code ({ cls := "InvoiceSmith", name := "line", desc := "(III)I" } : Jvm.MethodName) prog_1_method_9_code (4 : Nat) (Option.some Jvm.ClassFile.FieldType.int)) ∈ TB := TB_mem 610 (by decide +kernel) (by decide +kernel)
set_option maxRecDepth 20000 in
theorem tn613 : (Jvm.Cond.methodLinkNest "InvoiceSmith" (162 : Nat) ({ cls := "InvoiceSmith$Bill", name := "addLine", desc := "(III)V" } : Jvm.MethodName) "InvoiceSmith") ∈ TN := TN_mem 613 (by decide +kernel) (by decide +kernel)
set_option maxRecDepth 20000 in
theorem tb615 : (Jvm.Cond.instanceMethod ({ cls := "InvoiceSmith$Bill", name := "addLine", desc := "(III)V" } : Jvm.MethodName)) ∈ TB := TB_mem 615 (by decide +kernel) (by decide +kernel)
set_option maxRecDepth 20000 in
theorem tb616 : (Jvm.Cond.code ({ cls := "InvoiceSmith$Bill", name := "addLine", desc := "(III)V" } : Jvm.MethodName) prog_2_method_3_code (4 : Nat) (Option.none : Option Jvm.ClassFile.FieldType)) ∈ TB := TB_mem 616 (by decide +kernel) (by decide +kernel)
set_option maxRecDepth 20000 in
theorem tn617 : (Jvm.Cond.methodLinkNest "InvoiceSmith$Bill" (31 : Nat) ({ cls := "InvoiceSmith", name := "set", desc := "([III)V" } : Jvm.MethodName) "InvoiceSmith") ∈ TN := TN_mem 617 (by decide +kernel) (by decide +kernel)
set_option maxRecDepth 20000 in
theorem tb618 : (Jvm.Cond.methodLink "InvoiceSmithLaw" (80 : Nat) ({ cls := "InvoiceSmith", name := "make", desc := "(I)I" } : Jvm.MethodName)) ∈ TB := TB_mem 618 (by decide +kernel) (by decide +kernel)
set_option maxRecDepth 20000 in
theorem tb619 : (Jvm.Cond.instanceMethod ({ cls := "InvoiceSmith", name := "make", desc := "(I)I" } : Jvm.MethodName)) ∈ TB := TB_mem 619 (by decide +kernel) (by decide +kernel)
set_option maxRecDepth 20000 in
theorem tb620 : (Jvm.Cond.selects "InvoiceSmith" ({ cls := "InvoiceSmith", name := "make", desc := "(I)I" } : Jvm.MethodName) ({ cls := "InvoiceSmith", name := "make", desc := "(I)I" } : Jvm.MethodName)) ∈ TB := TB_mem 620 (by decide +kernel) (by decide +kernel)
set_option maxRecDepth 20000 in
theorem tb621 : (Jvm.Cond.code ({ cls := "InvoiceSmith", name := "make", desc := "(I)I" } : Jvm.MethodName) prog_1_method_11_code (4 : Nat) (Option.some Jvm.ClassFile.FieldType.int)) ∈ TB := TB_mem 621 (by decide +kernel) (by decide +kernel)
set_option maxRecDepth 20000 in
theorem tn623 : (Jvm.Cond.methodLinkNest "InvoiceSmith" (198 : Nat) ({ cls := "InvoiceSmith$Rates", name := "fillTellings", desc := "(II[I)V" } : Jvm.MethodName) "InvoiceSmith") ∈ TN := TN_mem 623 (by decide +kernel) (by decide +kernel)
set_option maxRecDepth 20000 in
theorem tb625 : (Jvm.Cond.instanceMethod ({ cls := "InvoiceSmith$Rates", name := "fillTellings", desc := "(II[I)V" } : Jvm.MethodName)) ∈ TB := TB_mem 625 (by decide +kernel) (by decide +kernel)
set_option maxRecDepth 20000 in
theorem tb626 : (Jvm.Cond.code ({ cls := "InvoiceSmith$Rates", name := "fillTellings", desc := "(II[I)V" } : Jvm.MethodName) prog_6_method_4_code (5 : Nat) (Option.none : Option Jvm.ClassFile.FieldType)) ∈ TB := TB_mem 626 (by decide +kernel) (by decide +kernel)
set_option maxRecDepth 20000 in
theorem tb627 : (Jvm.Cond.methodLink "InvoiceSmith$Rates" (36 : Nat) ({ cls := "InvoiceSmith$Rates", name := "known", desc := "(III)I" } : Jvm.MethodName)) ∈ TB := TB_mem 627 (by decide +kernel) (by decide +kernel)
set_option maxRecDepth 20000 in
theorem tn628 : (Jvm.Cond.methodLinkNest "InvoiceSmith" (205 : Nat) ({ cls := "InvoiceSmith$Rates", name := "fillHundredths", desc := "(II[I)V" } : Jvm.MethodName) "InvoiceSmith") ∈ TN := TN_mem 628 (by decide +kernel) (by decide +kernel)
set_option maxRecDepth 20000 in
theorem tb630 : (Jvm.Cond.instanceMethod ({ cls := "InvoiceSmith$Rates", name := "fillHundredths", desc := "(II[I)V" } : Jvm.MethodName)) ∈ TB := TB_mem 630 (by decide +kernel) (by decide +kernel)
set_option maxRecDepth 20000 in
theorem tb631 : (Jvm.Cond.code ({ cls := "InvoiceSmith$Rates", name := "fillHundredths", desc := "(II[I)V" } : Jvm.MethodName) prog_6_method_5_code (6 : Nat) (Option.none : Option Jvm.ClassFile.FieldType)) ∈ TB := TB_mem 631 (by decide +kernel) (by decide +kernel)
set_option maxRecDepth 20000 in
theorem tn632 : (Jvm.Cond.methodLinkNest "InvoiceSmith" (208 : Nat) ({ cls := "InvoiceSmith$Bill", name := "taxBy", desc := "([I)I" } : Jvm.MethodName) "InvoiceSmith") ∈ TN := TN_mem 632 (by decide +kernel) (by decide +kernel)
set_option maxRecDepth 20000 in
theorem tb634 : (Jvm.Cond.instanceMethod ({ cls := "InvoiceSmith$Bill", name := "taxBy", desc := "([I)I" } : Jvm.MethodName)) ∈ TB := TB_mem 634 (by decide +kernel) (by decide +kernel)
set_option maxRecDepth 20000 in
theorem tb635 : (Jvm.Cond.code ({ cls := "InvoiceSmith$Bill", name := "taxBy", desc := "([I)I" } : Jvm.MethodName) prog_2_method_8_code (2 : Nat) (Option.some Jvm.ClassFile.FieldType.int)) ∈ TB := TB_mem 635 (by decide +kernel) (by decide +kernel)
set_option maxRecDepth 20000 in
theorem tb636 : (Jvm.Cond.methodLink "InvoiceSmith$Bill" (52 : Nat) ({ cls := "InvoiceSmith$Bill", name := "taxByLine", desc := "([I)I" } : Jvm.MethodName)) ∈ TB := TB_mem 636 (by decide +kernel) (by decide +kernel)
set_option maxRecDepth 20000 in
theorem tb638 : (Jvm.Cond.instanceMethod ({ cls := "InvoiceSmith$Bill", name := "taxByLine", desc := "([I)I" } : Jvm.MethodName)) ∈ TB := TB_mem 638 (by decide +kernel) (by decide +kernel)
set_option maxRecDepth 20000 in
theorem tb639 : (Jvm.Cond.code ({ cls := "InvoiceSmith$Bill", name := "taxByLine", desc := "([I)I" } : Jvm.MethodName) prog_2_method_9_code (4 : Nat) (Option.some Jvm.ClassFile.FieldType.int)) ∈ TB := TB_mem 639 (by decide +kernel) (by decide +kernel)
set_option maxRecDepth 20000 in
theorem tb640 : (Jvm.Cond.methodLink "InvoiceSmith$Bill" (62 : Nat) ({ cls := "InvoiceSmith$Bill", name := "timesRate", desc := "(I[I)I" } : Jvm.MethodName)) ∈ TB := TB_mem 640 (by decide +kernel) (by decide +kernel)
set_option maxRecDepth 20000 in
theorem tb642 : (Jvm.Cond.instanceMethod ({ cls := "InvoiceSmith$Bill", name := "timesRate", desc := "(I[I)I" } : Jvm.MethodName)) ∈ TB := TB_mem 642 (by decide +kernel) (by decide +kernel)
set_option maxRecDepth 20000 in
theorem tb643 : (Jvm.Cond.code ({ cls := "InvoiceSmith$Bill", name := "timesRate", desc := "(I[I)I" } : Jvm.MethodName) prog_2_method_12_code (3 : Nat) (Option.some Jvm.ClassFile.FieldType.int)) ∈ TB := TB_mem 643 (by decide +kernel) (by decide +kernel)
set_option maxRecDepth 20000 in
theorem tb644 : (Jvm.Cond.methodLink "InvoiceSmith$Bill" (39 : Nat) ({ cls := "InvoiceSmith$Bill", name := "amountOf", desc := "(I)I" } : Jvm.MethodName)) ∈ TB := TB_mem 644 (by decide +kernel) (by decide +kernel)
set_option maxRecDepth 20000 in
theorem tb646 : (Jvm.Cond.instanceMethod ({ cls := "InvoiceSmith$Bill", name := "amountOf", desc := "(I)I" } : Jvm.MethodName)) ∈ TB := TB_mem 646 (by decide +kernel) (by decide +kernel)
set_option maxRecDepth 20000 in
theorem tb647 : (Jvm.Cond.code ({ cls := "InvoiceSmith$Bill", name := "amountOf", desc := "(I)I" } : Jvm.MethodName) prog_2_method_5_code (2 : Nat) (Option.some Jvm.ClassFile.FieldType.int)) ∈ TB := TB_mem 647 (by decide +kernel) (by decide +kernel)
set_option maxRecDepth 20000 in
theorem tn648 : (Jvm.Cond.methodLinkNest "InvoiceSmith$Bill" (35 : Nat) ({ cls := "InvoiceSmith", name := "get", desc := "([II)I" } : Jvm.MethodName) "InvoiceSmith") ∈ TN := TN_mem 648 (by decide +kernel) (by decide +kernel)
set_option maxRecDepth 20000 in
theorem tb649 : (Jvm.Cond.methodLink "InvoiceSmith$Bill" (66 : Nat) ({ cls := "InvoiceSmith$Bill", name := "hundredth", desc := "(I)I" } : Jvm.MethodName)) ∈ TB := TB_mem 649 (by decide +kernel) (by decide +kernel)
set_option maxRecDepth 20000 in
theorem tb650 : (Jvm.Cond.static ({ cls := "InvoiceSmith$Bill", name := "hundredth", desc := "(I)I" } : Jvm.MethodName)) ∈ TB := TB_mem 650 (by decide +kernel) (by decide +kernel)
set_option maxRecDepth 20000 in
theorem tb651 : (Jvm.Cond.code ({ cls := "InvoiceSmith$Bill", name := "hundredth", desc := "(I)I" } : Jvm.MethodName) prog_2_method_13_code (1 : Nat) (Option.some Jvm.ClassFile.FieldType.int)) ∈ TB := TB_mem 651 (by decide +kernel) (by decide +kernel)
set_option maxRecDepth 20000 in
theorem tb652 : (Jvm.Cond.methodLink "InvoiceSmith$Bill" (56 : Nat) ({ cls := "InvoiceSmith$Bill", name := "taxByKind", desc := "([I)I" } : Jvm.MethodName)) ∈ TB := TB_mem 652 (by decide +kernel) (by decide +kernel)
set_option maxRecDepth 20000 in
theorem tb654 : (Jvm.Cond.instanceMethod ({ cls := "InvoiceSmith$Bill", name := "taxByKind", desc := "([I)I" } : Jvm.MethodName)) ∈ TB := TB_mem 654 (by decide +kernel) (by decide +kernel)
set_option maxRecDepth 20000 in
theorem tb655 : (Jvm.Cond.code ({ cls := "InvoiceSmith$Bill", name := "taxByKind", desc := "([I)I" } : Jvm.MethodName) prog_2_method_10_code (6 : Nat) (Option.some Jvm.ClassFile.FieldType.int)) ∈ TB := TB_mem 655 (by decide +kernel) (by decide +kernel)
set_option maxRecDepth 20000 in
theorem tb656 : (Jvm.Cond.methodLink "InvoiceSmith$Bill" (59 : Nat) ({ cls := "InvoiceSmith$Bill", name := "taxByAll", desc := "([I)I" } : Jvm.MethodName)) ∈ TB := TB_mem 656 (by decide +kernel) (by decide +kernel)
set_option maxRecDepth 20000 in
theorem tb658 : (Jvm.Cond.instanceMethod ({ cls := "InvoiceSmith$Bill", name := "taxByAll", desc := "([I)I" } : Jvm.MethodName)) ∈ TB := TB_mem 658 (by decide +kernel) (by decide +kernel)
set_option maxRecDepth 20000 in
theorem tb659 : (Jvm.Cond.code ({ cls := "InvoiceSmith$Bill", name := "taxByAll", desc := "([I)I" } : Jvm.MethodName) prog_2_method_11_code (4 : Nat) (Option.some Jvm.ClassFile.FieldType.int)) ∈ TB := TB_mem 659 (by decide +kernel) (by decide +kernel)
set_option maxRecDepth 20000 in
theorem tb660 : (Jvm.Cond.methodLink "InvoiceSmithLaw" (86 : Nat) ({ cls := "InvoiceSmith", name := "invoice", desc := "(II)I" } : Jvm.MethodName)) ∈ TB := TB_mem 660 (by decide +kernel) (by decide +kernel)
set_option maxRecDepth 20000 in
theorem tb661 : (Jvm.Cond.instanceMethod ({ cls := "InvoiceSmith", name := "invoice", desc := "(II)I" } : Jvm.MethodName)) ∈ TB := TB_mem 661 (by decide +kernel) (by decide +kernel)
set_option maxRecDepth 20000 in
theorem tb662 : (Jvm.Cond.selects "InvoiceSmith" ({ cls := "InvoiceSmith", name := "invoice", desc := "(II)I" } : Jvm.MethodName) ({ cls := "InvoiceSmith", name := "invoice", desc := "(II)I" } : Jvm.MethodName)) ∈ TB := TB_mem 662 (by decide +kernel) (by decide +kernel)
set_option maxRecDepth 20000 in
theorem tb663 : (Jvm.Cond.code ({ cls := "InvoiceSmith", name := "invoice", desc := "(II)I" } : Jvm.MethodName) prog_1_method_12_code (4 : Nat) (Option.some Jvm.ClassFile.FieldType.int)) ∈ TB := TB_mem 663 (by decide +kernel) (by decide +kernel)
set_option maxRecDepth 20000 in
theorem tb664 : (Jvm.Cond.methodLink "InvoiceSmith" (215 : Nat) ({ cls := "InvoiceSmith", name := "findBill", desc := "(I)LInvoiceSmith$Bill;" } : Jvm.MethodName)) ∈ TB := TB_mem 664 (by decide +kernel) (by decide +kernel)
set_option maxRecDepth 20000 in
theorem tb666 : (Jvm.Cond.instanceMethod ({ cls := "InvoiceSmith", name := "findBill", desc := "(I)LInvoiceSmith$Bill;" } : Jvm.MethodName)) ∈ TB := TB_mem 666 (by decide +kernel) (by decide +kernel)
set_option maxRecDepth 20000 in
theorem tb667 : (Jvm.Cond.code ({ cls := "InvoiceSmith", name := "findBill", desc := "(I)LInvoiceSmith$Bill;" } : Jvm.MethodName) prog_1_method_24_code (3 : Nat) (Option.some (Jvm.ClassFile.FieldType.object "InvoiceSmith$Bill"))) ∈ TB := TB_mem 667 (by decide +kernel) (by decide +kernel)
set_option maxRecDepth 20000 in
theorem tn669 : (Jvm.Cond.methodLinkNest "InvoiceSmith" (219 : Nat) ({ cls := "InvoiceSmith$Bill", name := "sumOfAmounts", desc := "()I" } : Jvm.MethodName) "InvoiceSmith") ∈ TN := TN_mem 669 (by decide +kernel) (by decide +kernel)
set_option maxRecDepth 20000 in
theorem tb671 : (Jvm.Cond.instanceMethod ({ cls := "InvoiceSmith$Bill", name := "sumOfAmounts", desc := "()I" } : Jvm.MethodName)) ∈ TB := TB_mem 671 (by decide +kernel) (by decide +kernel)
set_option maxRecDepth 20000 in
theorem tb672 : (Jvm.Cond.code ({ cls := "InvoiceSmith$Bill", name := "sumOfAmounts", desc := "()I" } : Jvm.MethodName) prog_2_method_6_code (3 : Nat) (Option.some Jvm.ClassFile.FieldType.int)) ∈ TB := TB_mem 672 (by decide +kernel) (by decide +kernel)
set_option maxRecDepth 20000 in
theorem tn673 : (Jvm.Cond.methodLinkNest "InvoiceSmith" (222 : Nat) ({ cls := "InvoiceSmith$Bill", name := "taxWithNotes", desc := "()I" } : Jvm.MethodName) "InvoiceSmith") ∈ TN := TN_mem 673 (by decide +kernel) (by decide +kernel)
set_option maxRecDepth 20000 in
theorem tb675 : (Jvm.Cond.instanceMethod ({ cls := "InvoiceSmith$Bill", name := "taxWithNotes", desc := "()I" } : Jvm.MethodName)) ∈ TB := TB_mem 675 (by decide +kernel) (by decide +kernel)
set_option maxRecDepth 20000 in
theorem tb676 : (Jvm.Cond.code ({ cls := "InvoiceSmith$Bill", name := "taxWithNotes", desc := "()I" } : Jvm.MethodName) prog_2_method_7_code (1 : Nat) (Option.some Jvm.ClassFile.FieldType.int)) ∈ TB := TB_mem 676 (by decide +kernel) (by decide +kernel)
set_option maxRecDepth 20000 in
theorem tb678 : (Jvm.Cond.methodLink "InvoiceSmithLaw" (104 : Nat) ({ cls := "InvoiceSmith", name := "taxAnew", desc := "(I)I" } : Jvm.MethodName)) ∈ TB := TB_mem 678 (by decide +kernel) (by decide +kernel)
set_option maxRecDepth 20000 in
theorem tb679 : (Jvm.Cond.instanceMethod ({ cls := "InvoiceSmith", name := "taxAnew", desc := "(I)I" } : Jvm.MethodName)) ∈ TB := TB_mem 679 (by decide +kernel) (by decide +kernel)
set_option maxRecDepth 20000 in
theorem tb680 : (Jvm.Cond.selects "InvoiceSmith" ({ cls := "InvoiceSmith", name := "taxAnew", desc := "(I)I" } : Jvm.MethodName) ({ cls := "InvoiceSmith", name := "taxAnew", desc := "(I)I" } : Jvm.MethodName)) ∈ TB := TB_mem 680 (by decide +kernel) (by decide +kernel)
set_option maxRecDepth 20000 in
theorem tb681 : (Jvm.Cond.code ({ cls := "InvoiceSmith", name := "taxAnew", desc := "(I)I" } : Jvm.MethodName) prog_1_method_13_code (2 : Nat) (Option.some Jvm.ClassFile.FieldType.int)) ∈ TB := TB_mem 681 (by decide +kernel) (by decide +kernel)
set_option maxRecDepth 20000 in
theorem tb682 : (Jvm.Cond.methodLink "InvoiceSmith" (227 : Nat) ({ cls := "InvoiceSmith", name := "taxKnownNow", desc := "(LInvoiceSmith$Bill;)I" } : Jvm.MethodName)) ∈ TB := TB_mem 682 (by decide +kernel) (by decide +kernel)
set_option maxRecDepth 20000 in
theorem tb684 : (Jvm.Cond.instanceMethod ({ cls := "InvoiceSmith", name := "taxKnownNow", desc := "(LInvoiceSmith$Bill;)I" } : Jvm.MethodName)) ∈ TB := TB_mem 684 (by decide +kernel) (by decide +kernel)
set_option maxRecDepth 20000 in
theorem tb685 : (Jvm.Cond.code ({ cls := "InvoiceSmith", name := "taxKnownNow", desc := "(LInvoiceSmith$Bill;)I" } : Jvm.MethodName) prog_1_method_26_code (2 : Nat) (Option.some Jvm.ClassFile.FieldType.int)) ∈ TB := TB_mem 685 (by decide +kernel) (by decide +kernel)
set_option maxRecDepth 20000 in
theorem tb686 : (Jvm.Cond.methodLink "InvoiceSmithLaw" (83 : Nat) ({ cls := "InvoiceSmith", name := "used", desc := "(II)I" } : Jvm.MethodName)) ∈ TB := TB_mem 686 (by decide +kernel) (by decide +kernel)
set_option maxRecDepth 20000 in
theorem tb687 : (Jvm.Cond.instanceMethod ({ cls := "InvoiceSmith", name := "used", desc := "(II)I" } : Jvm.MethodName)) ∈ TB := TB_mem 687 (by decide +kernel) (by decide +kernel)
set_option maxRecDepth 20000 in
theorem tb688 : (Jvm.Cond.selects "InvoiceSmith" ({ cls := "InvoiceSmith", name := "used", desc := "(II)I" } : Jvm.MethodName) ({ cls := "InvoiceSmith", name := "used", desc := "(II)I" } : Jvm.MethodName)) ∈ TB := TB_mem 688 (by decide +kernel) (by decide +kernel)
set_option maxRecDepth 20000 in
theorem tb689 : (Jvm.Cond.code ({ cls := "InvoiceSmith", name := "used", desc := "(II)I" } : Jvm.MethodName) prog_1_method_14_code (4 : Nat) (Option.some Jvm.ClassFile.FieldType.int)) ∈ TB := TB_mem 689 (by decide +kernel) (by decide +kernel)
set_option maxRecDepth 20000 in
theorem tn690 : (Jvm.Cond.methodLinkNest "InvoiceSmith" (166 : Nat) ({ cls := "InvoiceSmith$Bill", name := "hasLine", desc := "(I)Z" } : Jvm.MethodName) "InvoiceSmith") ∈ TN := TN_mem 690 (by decide +kernel) (by decide +kernel)
set_option maxRecDepth 20000 in
theorem tb692 : (Jvm.Cond.instanceMethod ({ cls := "InvoiceSmith$Bill", name := "hasLine", desc := "(I)Z" } : Jvm.MethodName)) ∈ TB := TB_mem 692 (by decide +kernel) (by decide +kernel)
set_option maxRecDepth 20000 in
theorem tb693 : (Jvm.Cond.code ({ cls := "InvoiceSmith$Bill", name := "hasLine", desc := "(I)Z" } : Jvm.MethodName) prog_2_method_2_code (2 : Nat) (Option.some Jvm.ClassFile.FieldType.boolean)) ∈ TB := TB_mem 693 (by decide +kernel) (by decide +kernel)
set_option maxRecDepth 20000 in
theorem tb695 : (Jvm.Cond.methodLink "InvoiceSmithLaw" (28 : Nat) ({ cls := "InvoiceSmith", name := "written", desc := "(III)C" } : Jvm.MethodName)) ∈ TB := TB_mem 695 (by decide +kernel) (by decide +kernel)
set_option maxRecDepth 20000 in
theorem tb696 : (Jvm.Cond.instanceMethod ({ cls := "InvoiceSmith", name := "written", desc := "(III)C" } : Jvm.MethodName)) ∈ TB := TB_mem 696 (by decide +kernel) (by decide +kernel)
set_option maxRecDepth 20000 in
theorem tb697 : (Jvm.Cond.selects "InvoiceSmith" ({ cls := "InvoiceSmith", name := "written", desc := "(III)C" } : Jvm.MethodName) ({ cls := "InvoiceSmith", name := "written", desc := "(III)C" } : Jvm.MethodName)) ∈ TB := TB_mem 697 (by decide +kernel) (by decide +kernel)
set_option maxRecDepth 20000 in
theorem tb698 : (Jvm.Cond.code ({ cls := "InvoiceSmith", name := "written", desc := "(III)C" } : Jvm.MethodName) prog_1_method_15_code (6 : Nat) (Option.some Jvm.ClassFile.FieldType.char)) ∈ TB := TB_mem 698 (by decide +kernel) (by decide +kernel)
set_option maxRecDepth 20000 in
theorem tb699 : (Jvm.Cond.methodLink "InvoiceSmith" (234 : Nat) ({ cls := "InvoiceSmith", name := "findForm", desc := "(I)LInvoiceSmith$Form;" } : Jvm.MethodName)) ∈ TB := TB_mem 699 (by decide +kernel) (by decide +kernel)
set_option maxRecDepth 20000 in
theorem tb701 : (Jvm.Cond.instanceMethod ({ cls := "InvoiceSmith", name := "findForm", desc := "(I)LInvoiceSmith$Form;" } : Jvm.MethodName)) ∈ TB := TB_mem 701 (by decide +kernel) (by decide +kernel)
set_option maxRecDepth 20000 in
theorem tb702 : (Jvm.Cond.code ({ cls := "InvoiceSmith", name := "findForm", desc := "(I)LInvoiceSmith$Form;" } : Jvm.MethodName) prog_1_method_25_code (3 : Nat) (Option.some (Jvm.ClassFile.FieldType.object "InvoiceSmith$Form"))) ∈ TB := TB_mem 702 (by decide +kernel) (by decide +kernel)
set_option maxRecDepth 20000 in
theorem tn704 : (Jvm.Cond.methodLinkNest "InvoiceSmith" (240 : Nat) ({ cls := "InvoiceSmith$Writer", name := "write", desc := "(LInvoiceSmith$Bill;LInvoiceSmith$Form;I)V" } : Jvm.MethodName) "InvoiceSmith") ∈ TN := TN_mem 704 (by decide +kernel) (by decide +kernel)
set_option maxRecDepth 20000 in
theorem tb706 : (Jvm.Cond.instanceMethod ({ cls := "InvoiceSmith$Writer", name := "write", desc := "(LInvoiceSmith$Bill;LInvoiceSmith$Form;I)V" } : Jvm.MethodName)) ∈ TB := TB_mem 706 (by decide +kernel) (by decide +kernel)
set_option maxRecDepth 20000 in
theorem tb707 : (Jvm.Cond.code ({ cls := "InvoiceSmith$Writer", name := "write", desc := "(LInvoiceSmith$Bill;LInvoiceSmith$Form;I)V" } : Jvm.MethodName) prog_8_method_2_code (6 : Nat) (Option.none : Option Jvm.ClassFile.FieldType)) ∈ TB := TB_mem 707 (by decide +kernel) (by decide +kernel)
set_option maxRecDepth 20000 in
theorem tb708 : (Jvm.Cond.constant "InvoiceSmith$Writer" (36 : Nat) (1000000 : Int32)) ∈ TB := TB_mem 708 (by decide +kernel) (by decide +kernel)
set_option maxRecDepth 20000 in
theorem tb709 : (Jvm.Cond.methodLink "InvoiceSmith$Writer" (42 : Nat) ({ cls := "InvoiceSmith$Writer", name := "step", desc := "(LInvoiceSmith$Bill;LInvoiceSmith$Form;I)I" } : Jvm.MethodName)) ∈ TB := TB_mem 709 (by decide +kernel) (by decide +kernel)
set_option maxRecDepth 20000 in
theorem tb711 : (Jvm.Cond.instanceMethod ({ cls := "InvoiceSmith$Writer", name := "step", desc := "(LInvoiceSmith$Bill;LInvoiceSmith$Form;I)I" } : Jvm.MethodName)) ∈ TB := TB_mem 711 (by decide +kernel) (by decide +kernel)
set_option maxRecDepth 20000 in
theorem tb712 : (Jvm.Cond.code ({ cls := "InvoiceSmith$Writer", name := "step", desc := "(LInvoiceSmith$Bill;LInvoiceSmith$Form;I)I" } : Jvm.MethodName) prog_8_method_3_code (6 : Nat) (Option.some Jvm.ClassFile.FieldType.int)) ∈ TB := TB_mem 712 (by decide +kernel) (by decide +kernel)
set_option maxRecDepth 20000 in
theorem tn713 : (Jvm.Cond.methodLinkNest "InvoiceSmith$Writer" (49 : Nat) ({ cls := "InvoiceSmith", name := "get", desc := "([II)I" } : Jvm.MethodName) "InvoiceSmith") ∈ TN := TN_mem 713 (by decide +kernel) (by decide +kernel)
set_option maxRecDepth 20000 in
theorem tb714 : (Jvm.Cond.methodLink "InvoiceSmith$Writer" (59 : Nat) ({ cls := "InvoiceSmith$Writer", name := "put", desc := "(C)V" } : Jvm.MethodName)) ∈ TB := TB_mem 714 (by decide +kernel) (by decide +kernel)
set_option maxRecDepth 20000 in
theorem tb716 : (Jvm.Cond.instanceMethod ({ cls := "InvoiceSmith$Writer", name := "put", desc := "(C)V" } : Jvm.MethodName)) ∈ TB := TB_mem 716 (by decide +kernel) (by decide +kernel)
set_option maxRecDepth 20000 in
theorem tb717 : (Jvm.Cond.code ({ cls := "InvoiceSmith$Writer", name := "put", desc := "(C)V" } : Jvm.MethodName) prog_8_method_6_code (2 : Nat) (Option.none : Option Jvm.ClassFile.FieldType)) ∈ TB := TB_mem 717 (by decide +kernel) (by decide +kernel)
set_option maxRecDepth 20000 in
theorem tn718 : (Jvm.Cond.methodLinkNest "InvoiceSmith$Writer" (63 : Nat) ({ cls := "InvoiceSmith$Bill", name := "numberNamed", desc := "(CI)I" } : Jvm.MethodName) "InvoiceSmith") ∈ TN := TN_mem 718 (by decide +kernel) (by decide +kernel)
set_option maxRecDepth 20000 in
theorem tb720 : (Jvm.Cond.instanceMethod ({ cls := "InvoiceSmith$Bill", name := "numberNamed", desc := "(CI)I" } : Jvm.MethodName)) ∈ TB := TB_mem 720 (by decide +kernel) (by decide +kernel)
set_option maxRecDepth 20000 in
theorem tb721 : (Jvm.Cond.code ({ cls := "InvoiceSmith$Bill", name := "numberNamed", desc := "(CI)I" } : Jvm.MethodName) prog_2_method_14_code (3 : Nat) (Option.some Jvm.ClassFile.FieldType.int)) ∈ TB := TB_mem 721 (by decide +kernel) (by decide +kernel)
set_option maxRecDepth 20000 in
theorem tb722 : (Jvm.Cond.methodLink "InvoiceSmith$Bill" (78 : Nat) ({ cls := "InvoiceSmith$Bill", name := "sumOfAmounts", desc := "()I" } : Jvm.MethodName)) ∈ TB := TB_mem 722 (by decide +kernel) (by decide +kernel)
set_option maxRecDepth 20000 in
theorem tb723 : (Jvm.Cond.methodLink "InvoiceSmith$Writer" (69 : Nat) ({ cls := "InvoiceSmith$Writer", name := "putNumber", desc := "(II)V" } : Jvm.MethodName)) ∈ TB := TB_mem 723 (by decide +kernel) (by decide +kernel)
set_option maxRecDepth 20000 in
theorem tb725 : (Jvm.Cond.instanceMethod ({ cls := "InvoiceSmith$Writer", name := "putNumber", desc := "(II)V" } : Jvm.MethodName)) ∈ TB := TB_mem 725 (by decide +kernel) (by decide +kernel)
set_option maxRecDepth 20000 in
theorem tb726 : (Jvm.Cond.code ({ cls := "InvoiceSmith$Writer", name := "putNumber", desc := "(II)V" } : Jvm.MethodName) prog_8_method_7_code (8 : Nat) (Option.none : Option Jvm.ClassFile.FieldType)) ∈ TB := TB_mem 726 (by decide +kernel) (by decide +kernel)
set_option maxRecDepth 20000 in
theorem tb727 : (Jvm.Cond.constantLong "InvoiceSmith$Writer" (85 : Nat) (10 : Int64)) ∈ TB := TB_mem 727 (by decide +kernel) (by decide +kernel)
set_option maxRecDepth 20000 in
theorem tn728 : (Jvm.Cond.methodLinkNest "InvoiceSmith$Writer" (87 : Nat) ({ cls := "InvoiceSmith", name := "set", desc := "([III)V" } : Jvm.MethodName) "InvoiceSmith") ∈ TN := TN_mem 728 (by decide +kernel) (by decide +kernel)
set_option maxRecDepth 20000 in
theorem tb729 : (Jvm.Cond.methodLink "InvoiceSmith$Writer" (73 : Nat) ({ cls := "InvoiceSmith$Writer", name := "compareSums", desc := "(C)Z" } : Jvm.MethodName)) ∈ TB := TB_mem 729 (by decide +kernel) (by decide +kernel)
set_option maxRecDepth 20000 in
theorem tb731 : (Jvm.Cond.instanceMethod ({ cls := "InvoiceSmith$Writer", name := "compareSums", desc := "(C)Z" } : Jvm.MethodName)) ∈ TB := TB_mem 731 (by decide +kernel) (by decide +kernel)
set_option maxRecDepth 20000 in
theorem tb732 : (Jvm.Cond.code ({ cls := "InvoiceSmith$Writer", name := "compareSums", desc := "(C)Z" } : Jvm.MethodName) prog_8_method_4_code (4 : Nat) (Option.some Jvm.ClassFile.FieldType.boolean)) ∈ TB := TB_mem 732 (by decide +kernel) (by decide +kernel)
set_option maxRecDepth 20000 in
theorem tb733 : (Jvm.Cond.methodLink "InvoiceSmith$Writer" (77 : Nat) ({ cls := "InvoiceSmith$Writer", name := "nextLine", desc := "(LInvoiceSmith$Bill;)Z" } : Jvm.MethodName)) ∈ TB := TB_mem 733 (by decide +kernel) (by decide +kernel)
set_option maxRecDepth 20000 in
theorem tb735 : (Jvm.Cond.instanceMethod ({ cls := "InvoiceSmith$Writer", name := "nextLine", desc := "(LInvoiceSmith$Bill;)Z" } : Jvm.MethodName)) ∈ TB := TB_mem 735 (by decide +kernel) (by decide +kernel)
set_option maxRecDepth 20000 in
theorem tb736 : (Jvm.Cond.code ({ cls := "InvoiceSmith$Writer", name := "nextLine", desc := "(LInvoiceSmith$Bill;)Z" } : Jvm.MethodName) prog_8_method_5_code (3 : Nat) (Option.some Jvm.ClassFile.FieldType.boolean)) ∈ TB := TB_mem 736 (by decide +kernel) (by decide +kernel)
set_option maxRecDepth 20000 in
theorem tn737 : (Jvm.Cond.methodLinkNest "InvoiceSmith$Writer" (81 : Nat) ({ cls := "InvoiceSmith$Bill", name := "hasLine", desc := "(I)Z" } : Jvm.MethodName) "InvoiceSmith") ∈ TN := TN_mem 737 (by decide +kernel) (by decide +kernel)
set_option maxRecDepth 20000 in
theorem tb738 : (Jvm.Cond.methodLink "InvoiceSmithLaw" (97 : Nat) ({ cls := "InvoiceSmith", name := "length", desc := "(II)I" } : Jvm.MethodName)) ∈ TB := TB_mem 738 (by decide +kernel) (by decide +kernel)
set_option maxRecDepth 20000 in
theorem tb739 : (Jvm.Cond.instanceMethod ({ cls := "InvoiceSmith", name := "length", desc := "(II)I" } : Jvm.MethodName)) ∈ TB := TB_mem 739 (by decide +kernel) (by decide +kernel)
set_option maxRecDepth 20000 in
theorem tb740 : (Jvm.Cond.selects "InvoiceSmith" ({ cls := "InvoiceSmith", name := "length", desc := "(II)I" } : Jvm.MethodName) ({ cls := "InvoiceSmith", name := "length", desc := "(II)I" } : Jvm.MethodName)) ∈ TB := TB_mem 740 (by decide +kernel) (by decide +kernel)
set_option maxRecDepth 20000 in
theorem tb741 : (Jvm.Cond.code ({ cls := "InvoiceSmith", name := "length", desc := "(II)I" } : Jvm.MethodName) prog_1_method_16_code (5 : Nat) (Option.some Jvm.ClassFile.FieldType.int)) ∈ TB := TB_mem 741 (by decide +kernel) (by decide +kernel)
set_option maxRecDepth 20000 in
theorem tb742 : (Jvm.Cond.methodLink "InvoiceSmithLaw" (107 : Nat) ({ cls := "InvoiceSmith", name := "settle", desc := "(I)I" } : Jvm.MethodName)) ∈ TB := TB_mem 742 (by decide +kernel) (by decide +kernel)
set_option maxRecDepth 20000 in
theorem tb743 : (Jvm.Cond.instanceMethod ({ cls := "InvoiceSmith", name := "settle", desc := "(I)I" } : Jvm.MethodName)) ∈ TB := TB_mem 743 (by decide +kernel) (by decide +kernel)
set_option maxRecDepth 20000 in
theorem tb744 : (Jvm.Cond.selects "InvoiceSmith" ({ cls := "InvoiceSmith", name := "settle", desc := "(I)I" } : Jvm.MethodName) ({ cls := "InvoiceSmith", name := "settle", desc := "(I)I" } : Jvm.MethodName)) ∈ TB := TB_mem 744 (by decide +kernel) (by decide +kernel)
set_option maxRecDepth 20000 in
theorem tb745 : (Jvm.Cond.code ({ cls := "InvoiceSmith", name := "settle", desc := "(I)I" } : Jvm.MethodName) prog_1_method_17_code (5 : Nat) (Option.some Jvm.ClassFile.FieldType.int)) ∈ TB := TB_mem 745 (by decide +kernel) (by decide +kernel)
set_option maxRecDepth 20000 in
theorem tb746 : (Jvm.Cond.methodLink "InvoiceSmith" (250 : Nat) ({ cls := "InvoiceSmith", name := "makeGood", desc := "(LInvoiceSmith$Bill;)V" } : Jvm.MethodName)) ∈ TB := TB_mem 746 (by decide +kernel) (by decide +kernel)
set_option maxRecDepth 20000 in
theorem tb748 : (Jvm.Cond.instanceMethod ({ cls := "InvoiceSmith", name := "makeGood", desc := "(LInvoiceSmith$Bill;)V" } : Jvm.MethodName)) ∈ TB := TB_mem 748 (by decide +kernel) (by decide +kernel)
set_option maxRecDepth 20000 in
theorem tb749 : (Jvm.Cond.code ({ cls := "InvoiceSmith", name := "makeGood", desc := "(LInvoiceSmith$Bill;)V" } : Jvm.MethodName) prog_1_method_27_code (3 : Nat) (Option.none : Option Jvm.ClassFile.FieldType)) ∈ TB := TB_mem 749 (by decide +kernel) (by decide +kernel)
set_option maxRecDepth 20000 in
theorem tn750 : (Jvm.Cond.methodLinkNest "InvoiceSmith" (273 : Nat) ({ cls := "InvoiceSmith$Ledger", name := "enter", desc := "(III)V" } : Jvm.MethodName) "InvoiceSmith") ∈ TN := TN_mem 750 (by decide +kernel) (by decide +kernel)
set_option maxRecDepth 20000 in
theorem tb752 : (Jvm.Cond.instanceMethod ({ cls := "InvoiceSmith$Ledger", name := "enter", desc := "(III)V" } : Jvm.MethodName)) ∈ TB := TB_mem 752 (by decide +kernel) (by decide +kernel)
set_option maxRecDepth 20000 in
theorem tb753 : (Jvm.Cond.code ({ cls := "InvoiceSmith$Ledger", name := "enter", desc := "(III)V" } : Jvm.MethodName) prog_4_method_2_code (4 : Nat) (Option.none : Option Jvm.ClassFile.FieldType)) ∈ TB := TB_mem 753 (by decide +kernel) (by decide +kernel)
set_option maxRecDepth 20000 in
theorem tn754 : (Jvm.Cond.methodLinkNest "InvoiceSmith$Ledger" (25 : Nat) ({ cls := "InvoiceSmith", name := "set", desc := "([III)V" } : Jvm.MethodName) "InvoiceSmith") ∈ TN := TN_mem 754 (by decide +kernel) (by decide +kernel)
set_option maxRecDepth 20000 in
theorem tb755 : (Jvm.Cond.methodLink "InvoiceSmithLaw" (110 : Nat) ({ cls := "InvoiceSmith", name := "notes", desc := "()I" } : Jvm.MethodName)) ∈ TB := TB_mem 755 (by decide +kernel) (by decide +kernel)
set_option maxRecDepth 20000 in
theorem tb756 : (Jvm.Cond.instanceMethod ({ cls := "InvoiceSmith", name := "notes", desc := "()I" } : Jvm.MethodName)) ∈ TB := TB_mem 756 (by decide +kernel) (by decide +kernel)
set_option maxRecDepth 20000 in
theorem tb757 : (Jvm.Cond.selects "InvoiceSmith" ({ cls := "InvoiceSmith", name := "notes", desc := "()I" } : Jvm.MethodName) ({ cls := "InvoiceSmith", name := "notes", desc := "()I" } : Jvm.MethodName)) ∈ TB := TB_mem 757 (by decide +kernel) (by decide +kernel)
set_option maxRecDepth 20000 in
theorem tb758 : (Jvm.Cond.code ({ cls := "InvoiceSmith", name := "notes", desc := "()I" } : Jvm.MethodName) prog_1_method_18_code (1 : Nat) (Option.some Jvm.ClassFile.FieldType.int)) ∈ TB := TB_mem 758 (by decide +kernel) (by decide +kernel)
set_option maxRecDepth 20000 in
theorem tb759 : (Jvm.Cond.methodLink "InvoiceSmithLaw" (114 : Nat) ({ cls := "InvoiceSmith", name := "owed", desc := "(I)I" } : Jvm.MethodName)) ∈ TB := TB_mem 759 (by decide +kernel) (by decide +kernel)
set_option maxRecDepth 20000 in
theorem tb760 : (Jvm.Cond.instanceMethod ({ cls := "InvoiceSmith", name := "owed", desc := "(I)I" } : Jvm.MethodName)) ∈ TB := TB_mem 760 (by decide +kernel) (by decide +kernel)
set_option maxRecDepth 20000 in
theorem tb761 : (Jvm.Cond.selects "InvoiceSmith" ({ cls := "InvoiceSmith", name := "owed", desc := "(I)I" } : Jvm.MethodName) ({ cls := "InvoiceSmith", name := "owed", desc := "(I)I" } : Jvm.MethodName)) ∈ TB := TB_mem 761 (by decide +kernel) (by decide +kernel)
set_option maxRecDepth 20000 in
theorem tb762 : (Jvm.Cond.code ({ cls := "InvoiceSmith", name := "owed", desc := "(I)I" } : Jvm.MethodName) prog_1_method_20_code (5 : Nat) (Option.some Jvm.ClassFile.FieldType.int)) ∈ TB := TB_mem 762 (by decide +kernel) (by decide +kernel)
set_option maxRecDepth 20000 in
theorem tb763 : (Jvm.Cond.methodLink "InvoiceSmithLaw" (33 : Nat) ({ cls := "InvoiceSmithLaw", name := "cell", desc := "([II)I" } : Jvm.MethodName)) ∈ TB := TB_mem 763 (by decide +kernel) (by decide +kernel)
set_option maxRecDepth 20000 in
theorem tb764 : (Jvm.Cond.static ({ cls := "InvoiceSmithLaw", name := "cell", desc := "([II)I" } : Jvm.MethodName)) ∈ TB := TB_mem 764 (by decide +kernel) (by decide +kernel)
set_option maxRecDepth 20000 in
theorem tb765 : (Jvm.Cond.code ({ cls := "InvoiceSmithLaw", name := "cell", desc := "([II)I" } : Jvm.MethodName) method_2_code (2 : Nat) (Option.some Jvm.ClassFile.FieldType.int)) ∈ TB := TB_mem 765 (by decide +kernel) (by decide +kernel)
set_option maxRecDepth 20000 in
theorem tb766 : (Jvm.Cond.constant "InvoiceSmithLaw" (7 : Nat) (1000308311 : Int32)) ∈ TB := TB_mem 766 (by decide +kernel) (by decide +kernel)
set_option maxRecDepth 20000 in
theorem tb767 : (Jvm.Cond.constant "InvoiceSmithLaw" (8 : Nat) (751363485 : Int32)) ∈ TB := TB_mem 767 (by decide +kernel) (by decide +kernel)
set_option maxRecDepth 20000 in
theorem tb768 : (Jvm.Cond.methodLink "InvoiceSmithLaw" (37 : Nat) ({ cls := "InvoiceSmithLaw", name := "low", desc := "(II)I" } : Jvm.MethodName)) ∈ TB := TB_mem 768 (by decide +kernel) (by decide +kernel)
set_option maxRecDepth 20000 in
theorem tb769 : (Jvm.Cond.static ({ cls := "InvoiceSmithLaw", name := "low", desc := "(II)I" } : Jvm.MethodName)) ∈ TB := TB_mem 769 (by decide +kernel) (by decide +kernel)
set_option maxRecDepth 20000 in
theorem tb770 : (Jvm.Cond.code ({ cls := "InvoiceSmithLaw", name := "low", desc := "(II)I" } : Jvm.MethodName) method_3_code (2 : Nat) (Option.some Jvm.ClassFile.FieldType.int)) ∈ TB := TB_mem 770 (by decide +kernel) (by decide +kernel)
set_option maxRecDepth 20000 in
theorem tb771 : (Jvm.Cond.constant "InvoiceSmithLaw" (9 : Nat) (2147483647 : Int32)) ∈ TB := TB_mem 771 (by decide +kernel) (by decide +kernel)
set_option maxRecDepth 20000 in
theorem tb772 : (Jvm.Cond.methodLink "InvoiceSmithLaw" (10 : Nat) ({ cls := "InvoiceSmithLaw", name := "telling", desc := "([IIIII)I" } : Jvm.MethodName)) ∈ TB := TB_mem 772 (by decide +kernel) (by decide +kernel)
set_option maxRecDepth 20000 in
theorem tb773 : (Jvm.Cond.static ({ cls := "InvoiceSmithLaw", name := "telling", desc := "([IIIII)I" } : Jvm.MethodName)) ∈ TB := TB_mem 773 (by decide +kernel) (by decide +kernel)
set_option maxRecDepth 20000 in
theorem tb774 : (Jvm.Cond.code ({ cls := "InvoiceSmithLaw", name := "telling", desc := "([IIIII)I" } : Jvm.MethodName) method_4_code (7 : Nat) (Option.some Jvm.ClassFile.FieldType.int)) ∈ TB := TB_mem 774 (by decide +kernel) (by decide +kernel)
set_option maxRecDepth 20000 in
theorem tb775 : (Jvm.Cond.methodLink "InvoiceSmithLaw" (16 : Nat) ({ cls := "InvoiceSmithLaw", name := "tax", desc := "([I[I[II[I)I" } : Jvm.MethodName)) ∈ TB := TB_mem 775 (by decide +kernel) (by decide +kernel)
set_option maxRecDepth 20000 in
theorem tb776 : (Jvm.Cond.static ({ cls := "InvoiceSmithLaw", name := "tax", desc := "([I[I[II[I)I" } : Jvm.MethodName)) ∈ TB := TB_mem 776 (by decide +kernel) (by decide +kernel)
set_option maxRecDepth 20000 in
theorem tb777 : (Jvm.Cond.code ({ cls := "InvoiceSmithLaw", name := "tax", desc := "([I[I[II[I)I" } : Jvm.MethodName) method_5_code (10 : Nat) (Option.some Jvm.ClassFile.FieldType.int)) ∈ TB := TB_mem 777 (by decide +kernel) (by decide +kernel)
set_option maxRecDepth 20000 in
theorem tb778 : (Jvm.Cond.methodLink "InvoiceSmithLaw" (100 : Nat) ({ cls := "InvoiceSmithLaw", name := "now", desc := "([II[I[II)I" } : Jvm.MethodName)) ∈ TB := TB_mem 778 (by decide +kernel) (by decide +kernel)
set_option maxRecDepth 20000 in
theorem tb779 : (Jvm.Cond.static ({ cls := "InvoiceSmithLaw", name := "now", desc := "([II[I[II)I" } : Jvm.MethodName)) ∈ TB := TB_mem 779 (by decide +kernel) (by decide +kernel)
set_option maxRecDepth 20000 in
theorem tb780 : (Jvm.Cond.code ({ cls := "InvoiceSmithLaw", name := "now", desc := "([II[I[II)I" } : Jvm.MethodName) method_6_code (7 : Nat) (Option.some Jvm.ClassFile.FieldType.int)) ∈ TB := TB_mem 780 (by decide +kernel) (by decide +kernel)
set_option maxRecDepth 20000 in
theorem tb781 : (Jvm.Cond.methodLink "InvoiceSmithLaw" (43 : Nat) ({ cls := "InvoiceSmithLaw", name := "types", desc := "(LInvoiceSmith;JJ)Z" } : Jvm.MethodName)) ∈ TB := TB_mem 781 (by decide +kernel) (by decide +kernel)
set_option maxRecDepth 20000 in
theorem tb782 : (Jvm.Cond.static ({ cls := "InvoiceSmithLaw", name := "types", desc := "(LInvoiceSmith;JJ)Z" } : Jvm.MethodName)) ∈ TB := TB_mem 782 (by decide +kernel) (by decide +kernel)
set_option maxRecDepth 20000 in
theorem tb783 : (Jvm.Cond.code ({ cls := "InvoiceSmithLaw", name := "types", desc := "(LInvoiceSmith;JJ)Z" } : Jvm.MethodName) method_7_code (8 : Nat) (Option.some Jvm.ClassFile.FieldType.boolean)) ∈ TB := TB_mem 783 (by decide +kernel) (by decide +kernel)
set_option maxRecDepth 20000 in
theorem tb784 : (Jvm.Cond.methodLink "InvoiceSmithLaw" (20 : Nat) ({ cls := "InvoiceSmith", name := "type", desc := "(J)I" } : Jvm.MethodName)) ∈ TB := TB_mem 784 (by decide +kernel) (by decide +kernel)
set_option maxRecDepth 20000 in
theorem tb785 : (Jvm.Cond.instanceMethod ({ cls := "InvoiceSmith", name := "type", desc := "(J)I" } : Jvm.MethodName)) ∈ TB := TB_mem 785 (by decide +kernel) (by decide +kernel)
set_option maxRecDepth 20000 in
theorem tb786 : (Jvm.Cond.selects "InvoiceSmith" ({ cls := "InvoiceSmith", name := "type", desc := "(J)I" } : Jvm.MethodName) ({ cls := "InvoiceSmith", name := "type", desc := "(J)I" } : Jvm.MethodName)) ∈ TB := TB_mem 786 (by decide +kernel) (by decide +kernel)
set_option maxRecDepth 20000 in
theorem tb787 : (Jvm.Cond.code ({ cls := "InvoiceSmith", name := "type", desc := "(J)I" } : Jvm.MethodName) prog_1_method_2_code (5 : Nat) (Option.some Jvm.ClassFile.FieldType.int)) ∈ TB := TB_mem 787 (by decide +kernel) (by decide +kernel)
set_option maxRecDepth 20000 in
theorem tn788 : (Jvm.Cond.methodLinkNest "InvoiceSmith" (68 : Nat) ({ cls := "InvoiceSmith$Page", name := "countSigns", desc := "(J)I" } : Jvm.MethodName) "InvoiceSmith") ∈ TN := TN_mem 788 (by decide +kernel) (by decide +kernel)
set_option maxRecDepth 20000 in
theorem tb789 : (Jvm.Cond.static ({ cls := "InvoiceSmith$Page", name := "countSigns", desc := "(J)I" } : Jvm.MethodName)) ∈ TB := TB_mem 789 (by decide +kernel) (by decide +kernel)
set_option maxRecDepth 20000 in
theorem tb790 : (Jvm.Cond.code ({ cls := "InvoiceSmith$Page", name := "countSigns", desc := "(J)I" } : Jvm.MethodName) prog_5_method_2_code (6 : Nat) (Option.some Jvm.ClassFile.FieldType.int)) ∈ TB := TB_mem 790 (by decide +kernel) (by decide +kernel)
set_option maxRecDepth 20000 in
theorem tb791 : (Jvm.Cond.constantLong "InvoiceSmith$Page" (15 : Nat) (255 : Int64)) ∈ TB := TB_mem 791 (by decide +kernel) (by decide +kernel)
set_option maxRecDepth 20000 in
theorem tn794 : (Jvm.Cond.methodLinkNest "InvoiceSmith" (90 : Nat) ({ cls := "InvoiceSmith$Page", name := "append", desc := "(JI)V" } : Jvm.MethodName) "InvoiceSmith") ∈ TN := TN_mem 794 (by decide +kernel) (by decide +kernel)
set_option maxRecDepth 20000 in
theorem tb796 : (Jvm.Cond.instanceMethod ({ cls := "InvoiceSmith$Page", name := "append", desc := "(JI)V" } : Jvm.MethodName)) ∈ TB := TB_mem 796 (by decide +kernel) (by decide +kernel)
set_option maxRecDepth 20000 in
theorem tb797 : (Jvm.Cond.code ({ cls := "InvoiceSmith$Page", name := "append", desc := "(JI)V" } : Jvm.MethodName) prog_5_method_3_code (7 : Nat) (Option.none : Option Jvm.ClassFile.FieldType)) ∈ TB := TB_mem 797 (by decide +kernel) (by decide +kernel)
set_option maxRecDepth 20000 in
theorem tn798 : (Jvm.Cond.methodLinkNest "InvoiceSmith$Page" (21 : Nat) ({ cls := "InvoiceSmith", name := "set", desc := "([III)V" } : Jvm.MethodName) "InvoiceSmith") ∈ TN := TN_mem 798 (by decide +kernel) (by decide +kernel)
set_option maxRecDepth 20000 in
theorem tb799 : (Jvm.Cond.constantLong "InvoiceSmithLaw" (26 : Nat) (255 : Int64)) ∈ TB := TB_mem 799 (by decide +kernel) (by decide +kernel)
set_option maxRecDepth 20000 in
theorem tb800 : (Jvm.Cond.methodLink "InvoiceSmithLaw" (89 : Nat) ({ cls := "InvoiceSmithLaw", name := "number", desc := "(LInvoiceSmith;IIII)I" } : Jvm.MethodName)) ∈ TB := TB_mem 800 (by decide +kernel) (by decide +kernel)
set_option maxRecDepth 20000 in
theorem tb801 : (Jvm.Cond.static ({ cls := "InvoiceSmithLaw", name := "number", desc := "(LInvoiceSmith;IIII)I" } : Jvm.MethodName)) ∈ TB := TB_mem 801 (by decide +kernel) (by decide +kernel)
set_option maxRecDepth 20000 in
theorem tb802 : (Jvm.Cond.code ({ cls := "InvoiceSmithLaw", name := "number", desc := "(LInvoiceSmith;IIII)I" } : Jvm.MethodName) method_8_code (10 : Nat) (Option.some Jvm.ClassFile.FieldType.int)) ∈ TB := TB_mem 802 (by decide +kernel) (by decide +kernel)
set_option maxRecDepth 20000 in
theorem tb803 : (Jvm.Cond.methodLink "InvoiceSmithLaw" (93 : Nat) ({ cls := "InvoiceSmithLaw", name := "sign", desc := "(LInvoiceSmith;III)I" } : Jvm.MethodName)) ∈ TB := TB_mem 803 (by decide +kernel) (by decide +kernel)
set_option maxRecDepth 20000 in
theorem tb804 : (Jvm.Cond.static ({ cls := "InvoiceSmithLaw", name := "sign", desc := "(LInvoiceSmith;III)I" } : Jvm.MethodName)) ∈ TB := TB_mem 804 (by decide +kernel) (by decide +kernel)
set_option maxRecDepth 20000 in
theorem tb805 : (Jvm.Cond.code ({ cls := "InvoiceSmithLaw", name := "sign", desc := "(LInvoiceSmith;III)I" } : Jvm.MethodName) method_9_code (4 : Nat) (Option.some Jvm.ClassFile.FieldType.int)) ∈ TB := TB_mem 805 (by decide +kernel) (by decide +kernel)
set_option maxRecDepth 20000 in
theorem tb806 : (Jvm.Cond.constantLong "InvoiceSmithLaw" (41 : Nat) (9036800836046253691 : Int64)) ∈ TB := TB_mem 806 (by decide +kernel) (by decide +kernel)
set_option maxRecDepth 20000 in
theorem tb807 : (Jvm.Cond.constantLong "InvoiceSmithLaw" (51 : Nat) (7600715504868486779 : Int64)) ∈ TB := TB_mem 807 (by decide +kernel) (by decide +kernel)
set_option maxRecDepth 20000 in
theorem tb808 : (Jvm.Cond.constantLong "InvoiceSmithLaw" (53 : Nat) (3132322128233987379 : Int64)) ∈ TB := TB_mem 808 (by decide +kernel) (by decide +kernel)
set_option maxRecDepth 20000 in
theorem tb809 : (Jvm.Cond.constantLong "InvoiceSmithLaw" (55 : Nat) (3045133176171872570 : Int64)) ∈ TB := TB_mem 809 (by decide +kernel) (by decide +kernel)
set_option maxRecDepth 20000 in
theorem tb810 : (Jvm.Cond.constantLong "InvoiceSmithLaw" (57 : Nat) (35230807085642107 : Int64)) ∈ TB := TB_mem 810 (by decide +kernel) (by decide +kernel)
set_option maxRecDepth 20000 in
theorem tb811 : (Jvm.Cond.constantLong "InvoiceSmithLaw" (59 : Nat) (9016552199894024059 : Int64)) ∈ TB := TB_mem 811 (by decide +kernel) (by decide +kernel)
set_option maxRecDepth 20000 in
theorem tb812 : (Jvm.Cond.constantLong "InvoiceSmithLaw" (61 : Nat) (2100914043 : Int64)) ∈ TB := TB_mem 812 (by decide +kernel) (by decide +kernel)
set_option maxRecDepth 20000 in
theorem tb814 : (Jvm.Cond.fieldLink "java/lang/String" (15 : Nat) "java/lang/String" "coder" "B") ∈ TB := TB_mem 814 (by decide +kernel) (by decide +kernel)
set_option maxRecDepth 20000 in
theorem tb815 : (Jvm.Cond.fieldLink "java/lang/String" (9 : Nat) "java/lang/String" "value" "[B") ∈ TB := TB_mem 815 (by decide +kernel) (by decide +kernel)
