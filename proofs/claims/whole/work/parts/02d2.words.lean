set_option maxRecDepth 20000 in
theorem tb1140 : (Jvm.Cond.selects "InvoiceSmithModel" ({ cls := "InvoiceSmithModel", name := "line", desc := "(III)I" } : Jvm.MethodName) ({ cls := "InvoiceSmithModel", name := "line", desc := "(III)I" } : Jvm.MethodName)) ∈ TB := TB_mem 1140 (by decide +kernel) (by decide +kernel)
set_option maxRecDepth 20000 in
theorem tb1141 : (Jvm.Cond.code ({ cls := "InvoiceSmithModel", name := "line", desc := "(III)I" } : Jvm.MethodName) prog_10_method_27_code (5 : Nat) (Option.some Jvm.ClassFile.FieldType.int)) ∈ TB := TB_mem 1141 (by decide +kernel) (by decide +kernel)
set_option maxRecDepth 20000 in
theorem tb1142 : (Jvm.Cond.methodLink "InvoiceSmithLaw" (118 : Nat) ({ cls := "InvoiceSmithModel", name := "strike", desc := "(I)I" } : Jvm.MethodName)) ∈ TB := TB_mem 1142 (by decide +kernel) (by decide +kernel)
set_option maxRecDepth 20000 in
theorem tb1143 : (Jvm.Cond.instanceMethod ({ cls := "InvoiceSmithModel", name := "strike", desc := "(I)I" } : Jvm.MethodName)) ∈ TB := TB_mem 1143 (by decide +kernel) (by decide +kernel)
set_option maxRecDepth 20000 in
theorem tb1144 : (Jvm.Cond.selects "InvoiceSmithModel" ({ cls := "InvoiceSmithModel", name := "strike", desc := "(I)I" } : Jvm.MethodName) ({ cls := "InvoiceSmithModel", name := "strike", desc := "(I)I" } : Jvm.MethodName)) ∈ TB := TB_mem 1144 (by decide +kernel) (by decide +kernel)
set_option maxRecDepth 20000 in
theorem tb1145 : (Jvm.Cond.code ({ cls := "InvoiceSmithModel", name := "strike", desc := "(I)I" } : Jvm.MethodName) prog_10_method_28_code (3 : Nat) (Option.some Jvm.ClassFile.FieldType.int)) ∈ TB := TB_mem 1145 (by decide +kernel) (by decide +kernel)
set_option maxRecDepth 20000 in
theorem tb1146 : (Jvm.Cond.methodLink "InvoiceSmithLaw" (121 : Nat) ({ cls := "InvoiceSmithModel", name := "make", desc := "(I)I" } : Jvm.MethodName)) ∈ TB := TB_mem 1146 (by decide +kernel) (by decide +kernel)
set_option maxRecDepth 20000 in
theorem tb1147 : (Jvm.Cond.instanceMethod ({ cls := "InvoiceSmithModel", name := "make", desc := "(I)I" } : Jvm.MethodName)) ∈ TB := TB_mem 1147 (by decide +kernel) (by decide +kernel)
set_option maxRecDepth 20000 in
theorem tb1148 : (Jvm.Cond.selects "InvoiceSmithModel" ({ cls := "InvoiceSmithModel", name := "make", desc := "(I)I" } : Jvm.MethodName) ({ cls := "InvoiceSmithModel", name := "make", desc := "(I)I" } : Jvm.MethodName)) ∈ TB := TB_mem 1148 (by decide +kernel) (by decide +kernel)
set_option maxRecDepth 20000 in
theorem tb1149 : (Jvm.Cond.code ({ cls := "InvoiceSmithModel", name := "make", desc := "(I)I" } : Jvm.MethodName) prog_10_method_33_code (5 : Nat) (Option.some Jvm.ClassFile.FieldType.int)) ∈ TB := TB_mem 1149 (by decide +kernel) (by decide +kernel)
set_option maxRecDepth 20000 in
theorem tb1150 : (Jvm.Cond.methodLink "InvoiceSmithModel" (213 : Nat) ({ cls := "InvoiceSmithModel", name := "rateOf", desc := "(I)I" } : Jvm.MethodName)) ∈ TB := TB_mem 1150 (by decide +kernel) (by decide +kernel)
set_option maxRecDepth 20000 in
theorem tb1152 : (Jvm.Cond.instanceMethod ({ cls := "InvoiceSmithModel", name := "rateOf", desc := "(I)I" } : Jvm.MethodName)) ∈ TB := TB_mem 1152 (by decide +kernel) (by decide +kernel)
set_option maxRecDepth 20000 in
theorem tb1153 : (Jvm.Cond.code ({ cls := "InvoiceSmithModel", name := "rateOf", desc := "(I)I" } : Jvm.MethodName) prog_10_method_31_code (2 : Nat) (Option.some Jvm.ClassFile.FieldType.int)) ∈ TB := TB_mem 1153 (by decide +kernel) (by decide +kernel)
set_option maxRecDepth 20000 in
theorem tb1154 : (Jvm.Cond.methodLink "InvoiceSmithModel" (216 : Nat) ({ cls := "InvoiceSmithModel", name := "taxBy", desc := "(I)I" } : Jvm.MethodName)) ∈ TB := TB_mem 1154 (by decide +kernel) (by decide +kernel)
set_option maxRecDepth 20000 in
theorem tb1156 : (Jvm.Cond.instanceMethod ({ cls := "InvoiceSmithModel", name := "taxBy", desc := "(I)I" } : Jvm.MethodName)) ∈ TB := TB_mem 1156 (by decide +kernel) (by decide +kernel)
set_option maxRecDepth 20000 in
theorem tb1157 : (Jvm.Cond.code ({ cls := "InvoiceSmithModel", name := "taxBy", desc := "(I)I" } : Jvm.MethodName) prog_10_method_32_code (6 : Nat) (Option.some Jvm.ClassFile.FieldType.int)) ∈ TB := TB_mem 1157 (by decide +kernel) (by decide +kernel)
set_option maxRecDepth 20000 in
theorem tb1158 : (Jvm.Cond.methodLink "InvoiceSmithModel" (203 : Nat) ({ cls := "InvoiceSmithModel", name := "amount", desc := "(II)I" } : Jvm.MethodName)) ∈ TB := TB_mem 1158 (by decide +kernel) (by decide +kernel)
set_option maxRecDepth 20000 in
theorem tb1160 : (Jvm.Cond.instanceMethod ({ cls := "InvoiceSmithModel", name := "amount", desc := "(II)I" } : Jvm.MethodName)) ∈ TB := TB_mem 1160 (by decide +kernel) (by decide +kernel)
set_option maxRecDepth 20000 in
theorem tb1161 : (Jvm.Cond.code ({ cls := "InvoiceSmithModel", name := "amount", desc := "(II)I" } : Jvm.MethodName) prog_10_method_29_code (3 : Nat) (Option.some Jvm.ClassFile.FieldType.int)) ∈ TB := TB_mem 1161 (by decide +kernel) (by decide +kernel)
set_option maxRecDepth 20000 in
theorem tb1162 : (Jvm.Cond.methodLink "InvoiceSmithModel" (207 : Nat) ({ cls := "InvoiceSmithModel", name := "rounded", desc := "(I)I" } : Jvm.MethodName)) ∈ TB := TB_mem 1162 (by decide +kernel) (by decide +kernel)
set_option maxRecDepth 20000 in
theorem tb1163 : (Jvm.Cond.static ({ cls := "InvoiceSmithModel", name := "rounded", desc := "(I)I" } : Jvm.MethodName)) ∈ TB := TB_mem 1163 (by decide +kernel) (by decide +kernel)
set_option maxRecDepth 20000 in
theorem tb1164 : (Jvm.Cond.code ({ cls := "InvoiceSmithModel", name := "rounded", desc := "(I)I" } : Jvm.MethodName) prog_10_method_30_code (1 : Nat) (Option.some Jvm.ClassFile.FieldType.int)) ∈ TB := TB_mem 1164 (by decide +kernel) (by decide +kernel)
set_option maxRecDepth 20000 in
theorem tb1165 : (Jvm.Cond.methodLink "InvoiceSmithLaw" (124 : Nat) ({ cls := "InvoiceSmithModel", name := "invoice", desc := "(II)I" } : Jvm.MethodName)) ∈ TB := TB_mem 1165 (by decide +kernel) (by decide +kernel)
set_option maxRecDepth 20000 in
theorem tb1166 : (Jvm.Cond.instanceMethod ({ cls := "InvoiceSmithModel", name := "invoice", desc := "(II)I" } : Jvm.MethodName)) ∈ TB := TB_mem 1166 (by decide +kernel) (by decide +kernel)
set_option maxRecDepth 20000 in
theorem tb1167 : (Jvm.Cond.selects "InvoiceSmithModel" ({ cls := "InvoiceSmithModel", name := "invoice", desc := "(II)I" } : Jvm.MethodName) ({ cls := "InvoiceSmithModel", name := "invoice", desc := "(II)I" } : Jvm.MethodName)) ∈ TB := TB_mem 1167 (by decide +kernel) (by decide +kernel)
set_option maxRecDepth 20000 in
theorem tb1168 : (Jvm.Cond.code ({ cls := "InvoiceSmithModel", name := "invoice", desc := "(II)I" } : Jvm.MethodName) prog_10_method_37_code (3 : Nat) (Option.some Jvm.ClassFile.FieldType.int)) ∈ TB := TB_mem 1168 (by decide +kernel) (by decide +kernel)
set_option maxRecDepth 20000 in
theorem tb1169 : (Jvm.Cond.methodLink "InvoiceSmithModel" (222 : Nat) ({ cls := "InvoiceSmithModel", name := "isInvoice", desc := "(I)Z" } : Jvm.MethodName)) ∈ TB := TB_mem 1169 (by decide +kernel) (by decide +kernel)
set_option maxRecDepth 20000 in
theorem tb1171 : (Jvm.Cond.instanceMethod ({ cls := "InvoiceSmithModel", name := "isInvoice", desc := "(I)Z" } : Jvm.MethodName)) ∈ TB := TB_mem 1171 (by decide +kernel) (by decide +kernel)
set_option maxRecDepth 20000 in
theorem tb1172 : (Jvm.Cond.code ({ cls := "InvoiceSmithModel", name := "isInvoice", desc := "(I)Z" } : Jvm.MethodName) prog_10_method_34_code (2 : Nat) (Option.some Jvm.ClassFile.FieldType.boolean)) ∈ TB := TB_mem 1172 (by decide +kernel) (by decide +kernel)
set_option maxRecDepth 20000 in
theorem tb1173 : (Jvm.Cond.methodLink "InvoiceSmithModel" (225 : Nat) ({ cls := "InvoiceSmithModel", name := "sumOf", desc := "(I)I" } : Jvm.MethodName)) ∈ TB := TB_mem 1173 (by decide +kernel) (by decide +kernel)
set_option maxRecDepth 20000 in
theorem tb1175 : (Jvm.Cond.instanceMethod ({ cls := "InvoiceSmithModel", name := "sumOf", desc := "(I)I" } : Jvm.MethodName)) ∈ TB := TB_mem 1175 (by decide +kernel) (by decide +kernel)
set_option maxRecDepth 20000 in
theorem tb1176 : (Jvm.Cond.code ({ cls := "InvoiceSmithModel", name := "sumOf", desc := "(I)I" } : Jvm.MethodName) prog_10_method_35_code (4 : Nat) (Option.some Jvm.ClassFile.FieldType.int)) ∈ TB := TB_mem 1176 (by decide +kernel) (by decide +kernel)
set_option maxRecDepth 20000 in
theorem tb1177 : (Jvm.Cond.methodLink "InvoiceSmithModel" (228 : Nat) ({ cls := "InvoiceSmithModel", name := "taxed", desc := "(I)I" } : Jvm.MethodName)) ∈ TB := TB_mem 1177 (by decide +kernel) (by decide +kernel)
set_option maxRecDepth 20000 in
theorem tb1179 : (Jvm.Cond.instanceMethod ({ cls := "InvoiceSmithModel", name := "taxed", desc := "(I)I" } : Jvm.MethodName)) ∈ TB := TB_mem 1179 (by decide +kernel) (by decide +kernel)
set_option maxRecDepth 20000 in
theorem tb1180 : (Jvm.Cond.code ({ cls := "InvoiceSmithModel", name := "taxed", desc := "(I)I" } : Jvm.MethodName) prog_10_method_36_code (4 : Nat) (Option.some Jvm.ClassFile.FieldType.int)) ∈ TB := TB_mem 1180 (by decide +kernel) (by decide +kernel)
set_option maxRecDepth 20000 in
theorem tb1181 : (Jvm.Cond.methodLink "InvoiceSmithLaw" (127 : Nat) ({ cls := "InvoiceSmithModel", name := "taxAnew", desc := "(I)I" } : Jvm.MethodName)) ∈ TB := TB_mem 1181 (by decide +kernel) (by decide +kernel)
set_option maxRecDepth 20000 in
theorem tb1182 : (Jvm.Cond.instanceMethod ({ cls := "InvoiceSmithModel", name := "taxAnew", desc := "(I)I" } : Jvm.MethodName)) ∈ TB := TB_mem 1182 (by decide +kernel) (by decide +kernel)
set_option maxRecDepth 20000 in
theorem tb1183 : (Jvm.Cond.selects "InvoiceSmithModel" ({ cls := "InvoiceSmithModel", name := "taxAnew", desc := "(I)I" } : Jvm.MethodName) ({ cls := "InvoiceSmithModel", name := "taxAnew", desc := "(I)I" } : Jvm.MethodName)) ∈ TB := TB_mem 1183 (by decide +kernel) (by decide +kernel)
set_option maxRecDepth 20000 in
theorem tb1184 : (Jvm.Cond.code ({ cls := "InvoiceSmithModel", name := "taxAnew", desc := "(I)I" } : Jvm.MethodName) prog_10_method_39_code (2 : Nat) (Option.some Jvm.ClassFile.FieldType.int)) ∈ TB := TB_mem 1184 (by decide +kernel) (by decide +kernel)
set_option maxRecDepth 20000 in
theorem tb1185 : (Jvm.Cond.methodLink "InvoiceSmithModel" (231 : Nat) ({ cls := "InvoiceSmithModel", name := "taxNow", desc := "(I)I" } : Jvm.MethodName)) ∈ TB := TB_mem 1185 (by decide +kernel) (by decide +kernel)
set_option maxRecDepth 20000 in
theorem tb1187 : (Jvm.Cond.instanceMethod ({ cls := "InvoiceSmithModel", name := "taxNow", desc := "(I)I" } : Jvm.MethodName)) ∈ TB := TB_mem 1187 (by decide +kernel) (by decide +kernel)
set_option maxRecDepth 20000 in
theorem tb1188 : (Jvm.Cond.code ({ cls := "InvoiceSmithModel", name := "taxNow", desc := "(I)I" } : Jvm.MethodName) prog_10_method_38_code (3 : Nat) (Option.some Jvm.ClassFile.FieldType.int)) ∈ TB := TB_mem 1188 (by decide +kernel) (by decide +kernel)
set_option maxRecDepth 20000 in
theorem tb1189 : (Jvm.Cond.methodLink "InvoiceSmithLaw" (130 : Nat) ({ cls := "InvoiceSmithModel", name := "used", desc := "(II)I" } : Jvm.MethodName)) ∈ TB := TB_mem 1189 (by decide +kernel) (by decide +kernel)
set_option maxRecDepth 20000 in
theorem tb1190 : (Jvm.Cond.instanceMethod ({ cls := "InvoiceSmithModel", name := "used", desc := "(II)I" } : Jvm.MethodName)) ∈ TB := TB_mem 1190 (by decide +kernel) (by decide +kernel)
set_option maxRecDepth 20000 in
theorem tb1191 : (Jvm.Cond.selects "InvoiceSmithModel" ({ cls := "InvoiceSmithModel", name := "used", desc := "(II)I" } : Jvm.MethodName) ({ cls := "InvoiceSmithModel", name := "used", desc := "(II)I" } : Jvm.MethodName)) ∈ TB := TB_mem 1191 (by decide +kernel) (by decide +kernel)
set_option maxRecDepth 20000 in
theorem tb1192 : (Jvm.Cond.code ({ cls := "InvoiceSmithModel", name := "used", desc := "(II)I" } : Jvm.MethodName) prog_10_method_40_code (3 : Nat) (Option.some Jvm.ClassFile.FieldType.int)) ∈ TB := TB_mem 1192 (by decide +kernel) (by decide +kernel)
set_option maxRecDepth 20000 in
theorem tb1193 : (Jvm.Cond.methodLink "InvoiceSmithLaw" (133 : Nat) ({ cls := "InvoiceSmithModel", name := "written", desc := "(III)C" } : Jvm.MethodName)) ∈ TB := TB_mem 1193 (by decide +kernel) (by decide +kernel)
set_option maxRecDepth 20000 in
theorem tb1194 : (Jvm.Cond.instanceMethod ({ cls := "InvoiceSmithModel", name := "written", desc := "(III)C" } : Jvm.MethodName)) ∈ TB := TB_mem 1194 (by decide +kernel) (by decide +kernel)
set_option maxRecDepth 20000 in
theorem tb1195 : (Jvm.Cond.selects "InvoiceSmithModel" ({ cls := "InvoiceSmithModel", name := "written", desc := "(III)C" } : Jvm.MethodName) ({ cls := "InvoiceSmithModel", name := "written", desc := "(III)C" } : Jvm.MethodName)) ∈ TB := TB_mem 1195 (by decide +kernel) (by decide +kernel)
set_option maxRecDepth 20000 in
theorem tb1196 : (Jvm.Cond.code ({ cls := "InvoiceSmithModel", name := "written", desc := "(III)C" } : Jvm.MethodName) prog_10_method_48_code (4 : Nat) (Option.some Jvm.ClassFile.FieldType.char)) ∈ TB := TB_mem 1196 (by decide +kernel) (by decide +kernel)
set_option maxRecDepth 20000 in
theorem tb1197 : (Jvm.Cond.methodLink "InvoiceSmithModel" (276 : Nat) ({ cls := "InvoiceSmithModel", name := "writes", desc := "(II)V" } : Jvm.MethodName)) ∈ TB := TB_mem 1197 (by decide +kernel) (by decide +kernel)
set_option maxRecDepth 20000 in
theorem tb1199 : (Jvm.Cond.instanceMethod ({ cls := "InvoiceSmithModel", name := "writes", desc := "(II)V" } : Jvm.MethodName)) ∈ TB := TB_mem 1199 (by decide +kernel) (by decide +kernel)
set_option maxRecDepth 20000 in
theorem tb1200 : (Jvm.Cond.code ({ cls := "InvoiceSmithModel", name := "writes", desc := "(II)V" } : Jvm.MethodName) prog_10_method_47_code (6 : Nat) (Option.none : Option Jvm.ClassFile.FieldType)) ∈ TB := TB_mem 1200 (by decide +kernel) (by decide +kernel)
set_option maxRecDepth 20000 in
theorem tb1201 : (Jvm.Cond.methodLink "InvoiceSmithModel" (273 : Nat) ({ cls := "InvoiceSmithModel", name := "writesPart", desc := "(II)V" } : Jvm.MethodName)) ∈ TB := TB_mem 1201 (by decide +kernel) (by decide +kernel)
set_option maxRecDepth 20000 in
theorem tb1203 : (Jvm.Cond.instanceMethod ({ cls := "InvoiceSmithModel", name := "writesPart", desc := "(II)V" } : Jvm.MethodName)) ∈ TB := TB_mem 1203 (by decide +kernel) (by decide +kernel)
set_option maxRecDepth 20000 in
theorem tb1204 : (Jvm.Cond.code ({ cls := "InvoiceSmithModel", name := "writesPart", desc := "(II)V" } : Jvm.MethodName) prog_10_method_46_code (6 : Nat) (Option.none : Option Jvm.ClassFile.FieldType)) ∈ TB := TB_mem 1204 (by decide +kernel) (by decide +kernel)
set_option maxRecDepth 20000 in
theorem tb1205 : (Jvm.Cond.methodLink "InvoiceSmithModel" (267 : Nat) ({ cls := "InvoiceSmithModel", name := "holds", desc := "(III)Z" } : Jvm.MethodName)) ∈ TB := TB_mem 1205 (by decide +kernel) (by decide +kernel)
set_option maxRecDepth 20000 in
theorem tb1207 : (Jvm.Cond.instanceMethod ({ cls := "InvoiceSmithModel", name := "holds", desc := "(III)Z" } : Jvm.MethodName)) ∈ TB := TB_mem 1207 (by decide +kernel) (by decide +kernel)
set_option maxRecDepth 20000 in
theorem tb1208 : (Jvm.Cond.code ({ cls := "InvoiceSmithModel", name := "holds", desc := "(III)Z" } : Jvm.MethodName) prog_10_method_45_code (7 : Nat) (Option.some Jvm.ClassFile.FieldType.boolean)) ∈ TB := TB_mem 1208 (by decide +kernel) (by decide +kernel)
set_option maxRecDepth 20000 in
theorem tb1209 : (Jvm.Cond.methodLink "InvoiceSmithModel" (260 : Nat) ({ cls := "InvoiceSmithModel", name := "reckons", desc := "(II)V" } : Jvm.MethodName)) ∈ TB := TB_mem 1209 (by decide +kernel) (by decide +kernel)
set_option maxRecDepth 20000 in
theorem tb1211 : (Jvm.Cond.instanceMethod ({ cls := "InvoiceSmithModel", name := "reckons", desc := "(II)V" } : Jvm.MethodName)) ∈ TB := TB_mem 1211 (by decide +kernel) (by decide +kernel)
set_option maxRecDepth 20000 in
theorem tb1212 : (Jvm.Cond.code ({ cls := "InvoiceSmithModel", name := "reckons", desc := "(II)V" } : Jvm.MethodName) prog_10_method_44_code (7 : Nat) (Option.none : Option Jvm.ClassFile.FieldType)) ∈ TB := TB_mem 1212 (by decide +kernel) (by decide +kernel)
set_option maxRecDepth 20000 in
theorem tb1213 : (Jvm.Cond.constantLong "InvoiceSmithModel" (253 : Nat) (10 : Int64)) ∈ TB := TB_mem 1213 (by decide +kernel) (by decide +kernel)
set_option maxRecDepth 20000 in
theorem tb1214 : (Jvm.Cond.constantLong "InvoiceSmithModel" (255 : Nat) (48 : Int64)) ∈ TB := TB_mem 1214 (by decide +kernel) (by decide +kernel)
set_option maxRecDepth 20000 in
theorem tb1215 : (Jvm.Cond.methodLink "InvoiceSmithModel" (257 : Nat) ({ cls := "InvoiceSmithModel", name := "nameOf", desc := "(II)I" } : Jvm.MethodName)) ∈ TB := TB_mem 1215 (by decide +kernel) (by decide +kernel)
set_option maxRecDepth 20000 in
theorem tb1217 : (Jvm.Cond.instanceMethod ({ cls := "InvoiceSmithModel", name := "nameOf", desc := "(II)I" } : Jvm.MethodName)) ∈ TB := TB_mem 1217 (by decide +kernel) (by decide +kernel)
set_option maxRecDepth 20000 in
theorem tb1218 : (Jvm.Cond.code ({ cls := "InvoiceSmithModel", name := "nameOf", desc := "(II)I" } : Jvm.MethodName) prog_10_method_41_code (4 : Nat) (Option.some Jvm.ClassFile.FieldType.int)) ∈ TB := TB_mem 1218 (by decide +kernel) (by decide +kernel)
set_option maxRecDepth 20000 in
theorem tb1219 : (Jvm.Cond.methodLink "InvoiceSmithModel" (270 : Nat) ({ cls := "InvoiceSmithModel", name := "putsNumber", desc := "(II)V" } : Jvm.MethodName)) ∈ TB := TB_mem 1219 (by decide +kernel) (by decide +kernel)
set_option maxRecDepth 20000 in
theorem tb1221 : (Jvm.Cond.instanceMethod ({ cls := "InvoiceSmithModel", name := "putsNumber", desc := "(II)V" } : Jvm.MethodName)) ∈ TB := TB_mem 1221 (by decide +kernel) (by decide +kernel)
set_option maxRecDepth 20000 in
theorem tb1222 : (Jvm.Cond.code ({ cls := "InvoiceSmithModel", name := "putsNumber", desc := "(II)V" } : Jvm.MethodName) prog_10_method_43_code (8 : Nat) (Option.none : Option Jvm.ClassFile.FieldType)) ∈ TB := TB_mem 1222 (by decide +kernel) (by decide +kernel)
set_option maxRecDepth 20000 in
theorem tb1223 : (Jvm.Cond.methodLink "InvoiceSmithModel" (246 : Nat) ({ cls := "InvoiceSmithModel", name := "puts", desc := "(I)V" } : Jvm.MethodName)) ∈ TB := TB_mem 1223 (by decide +kernel) (by decide +kernel)
set_option maxRecDepth 20000 in
theorem tb1225 : (Jvm.Cond.instanceMethod ({ cls := "InvoiceSmithModel", name := "puts", desc := "(I)V" } : Jvm.MethodName)) ∈ TB := TB_mem 1225 (by decide +kernel) (by decide +kernel)
set_option maxRecDepth 20000 in
theorem tb1226 : (Jvm.Cond.code ({ cls := "InvoiceSmithModel", name := "puts", desc := "(I)V" } : Jvm.MethodName) prog_10_method_42_code (2 : Nat) (Option.none : Option Jvm.ClassFile.FieldType)) ∈ TB := TB_mem 1226 (by decide +kernel) (by decide +kernel)
set_option maxRecDepth 20000 in
theorem tb1227 : (Jvm.Cond.methodLink "InvoiceSmithLaw" (136 : Nat) ({ cls := "InvoiceSmithModel", name := "length", desc := "(II)I" } : Jvm.MethodName)) ∈ TB := TB_mem 1227 (by decide +kernel) (by decide +kernel)
set_option maxRecDepth 20000 in
theorem tb1228 : (Jvm.Cond.instanceMethod ({ cls := "InvoiceSmithModel", name := "length", desc := "(II)I" } : Jvm.MethodName)) ∈ TB := TB_mem 1228 (by decide +kernel) (by decide +kernel)
set_option maxRecDepth 20000 in
theorem tb1229 : (Jvm.Cond.selects "InvoiceSmithModel" ({ cls := "InvoiceSmithModel", name := "length", desc := "(II)I" } : Jvm.MethodName) ({ cls := "InvoiceSmithModel", name := "length", desc := "(II)I" } : Jvm.MethodName)) ∈ TB := TB_mem 1229 (by decide +kernel) (by decide +kernel)
set_option maxRecDepth 20000 in
theorem tb1230 : (Jvm.Cond.code ({ cls := "InvoiceSmithModel", name := "length", desc := "(II)I" } : Jvm.MethodName) prog_10_method_49_code (3 : Nat) (Option.some Jvm.ClassFile.FieldType.int)) ∈ TB := TB_mem 1230 (by decide +kernel) (by decide +kernel)
set_option maxRecDepth 20000 in
theorem tb1231 : (Jvm.Cond.methodLink "InvoiceSmithLaw" (139 : Nat) ({ cls := "InvoiceSmithModel", name := "settle", desc := "(I)I" } : Jvm.MethodName)) ∈ TB := TB_mem 1231 (by decide +kernel) (by decide +kernel)
set_option maxRecDepth 20000 in
theorem tb1232 : (Jvm.Cond.instanceMethod ({ cls := "InvoiceSmithModel", name := "settle", desc := "(I)I" } : Jvm.MethodName)) ∈ TB := TB_mem 1232 (by decide +kernel) (by decide +kernel)
set_option maxRecDepth 20000 in
theorem tb1233 : (Jvm.Cond.selects "InvoiceSmithModel" ({ cls := "InvoiceSmithModel", name := "settle", desc := "(I)I" } : Jvm.MethodName) ({ cls := "InvoiceSmithModel", name := "settle", desc := "(I)I" } : Jvm.MethodName)) ∈ TB := TB_mem 1233 (by decide +kernel) (by decide +kernel)
set_option maxRecDepth 20000 in
theorem tb1234 : (Jvm.Cond.code ({ cls := "InvoiceSmithModel", name := "settle", desc := "(I)I" } : Jvm.MethodName) prog_10_method_50_code (5 : Nat) (Option.some Jvm.ClassFile.FieldType.int)) ∈ TB := TB_mem 1234 (by decide +kernel) (by decide +kernel)
set_option maxRecDepth 20000 in
theorem tb1235 : (Jvm.Cond.methodLink "InvoiceSmithLaw" (143 : Nat) ({ cls := "InvoiceSmithModel", name := "notes", desc := "()I" } : Jvm.MethodName)) ∈ TB := TB_mem 1235 (by decide +kernel) (by decide +kernel)
set_option maxRecDepth 20000 in
theorem tb1236 : (Jvm.Cond.instanceMethod ({ cls := "InvoiceSmithModel", name := "notes", desc := "()I" } : Jvm.MethodName)) ∈ TB := TB_mem 1236 (by decide +kernel) (by decide +kernel)
set_option maxRecDepth 20000 in
theorem tb1237 : (Jvm.Cond.selects "InvoiceSmithModel" ({ cls := "InvoiceSmithModel", name := "notes", desc := "()I" } : Jvm.MethodName) ({ cls := "InvoiceSmithModel", name := "notes", desc := "()I" } : Jvm.MethodName)) ∈ TB := TB_mem 1237 (by decide +kernel) (by decide +kernel)
set_option maxRecDepth 20000 in
theorem tb1238 : (Jvm.Cond.code ({ cls := "InvoiceSmithModel", name := "notes", desc := "()I" } : Jvm.MethodName) prog_10_method_51_code (1 : Nat) (Option.some Jvm.ClassFile.FieldType.int)) ∈ TB := TB_mem 1238 (by decide +kernel) (by decide +kernel)
set_option maxRecDepth 20000 in
theorem tb1239 : (Jvm.Cond.methodLink "InvoiceSmithLaw" (146 : Nat) ({ cls := "InvoiceSmithModel", name := "note", desc := "(II)I" } : Jvm.MethodName)) ∈ TB := TB_mem 1239 (by decide +kernel) (by decide +kernel)
set_option maxRecDepth 20000 in
theorem tb1240 : (Jvm.Cond.instanceMethod ({ cls := "InvoiceSmithModel", name := "note", desc := "(II)I" } : Jvm.MethodName)) ∈ TB := TB_mem 1240 (by decide +kernel) (by decide +kernel)
set_option maxRecDepth 20000 in
theorem tb1241 : (Jvm.Cond.selects "InvoiceSmithModel" ({ cls := "InvoiceSmithModel", name := "note", desc := "(II)I" } : Jvm.MethodName) ({ cls := "InvoiceSmithModel", name := "note", desc := "(II)I" } : Jvm.MethodName)) ∈ TB := TB_mem 1241 (by decide +kernel) (by decide +kernel)
set_option maxRecDepth 20000 in
theorem tb1242 : (Jvm.Cond.code ({ cls := "InvoiceSmithModel", name := "note", desc := "(II)I" } : Jvm.MethodName) prog_10_method_52_code (3 : Nat) (Option.some Jvm.ClassFile.FieldType.int)) ∈ TB := TB_mem 1242 (by decide +kernel) (by decide +kernel)
set_option maxRecDepth 20000 in
theorem tb1243 : (Jvm.Cond.methodLink "InvoiceSmithLaw" (149 : Nat) ({ cls := "InvoiceSmithModel", name := "owed", desc := "(I)I" } : Jvm.MethodName)) ∈ TB := TB_mem 1243 (by decide +kernel) (by decide +kernel)
set_option maxRecDepth 20000 in
theorem tb1244 : (Jvm.Cond.instanceMethod ({ cls := "InvoiceSmithModel", name := "owed", desc := "(I)I" } : Jvm.MethodName)) ∈ TB := TB_mem 1244 (by decide +kernel) (by decide +kernel)
set_option maxRecDepth 20000 in
theorem tb1245 : (Jvm.Cond.selects "InvoiceSmithModel" ({ cls := "InvoiceSmithModel", name := "owed", desc := "(I)I" } : Jvm.MethodName) ({ cls := "InvoiceSmithModel", name := "owed", desc := "(I)I" } : Jvm.MethodName)) ∈ TB := TB_mem 1245 (by decide +kernel) (by decide +kernel)
set_option maxRecDepth 20000 in
theorem tb1246 : (Jvm.Cond.code ({ cls := "InvoiceSmithModel", name := "owed", desc := "(I)I" } : Jvm.MethodName) prog_10_method_53_code (4 : Nat) (Option.some Jvm.ClassFile.FieldType.int)) ∈ TB := TB_mem 1246 (by decide +kernel) (by decide +kernel)
set_option maxRecDepth 20000 in
theorem tb1247 : (Jvm.Cond.constantLong "InvoiceSmithLaw" (79 : Nat) (4294967295 : Int64)) ∈ TB := TB_mem 1247 (by decide +kernel) (by decide +kernel)
set_option maxRecDepth 20000 in
theorem tb1248 : (Jvm.Cond.arrayClass Jvm.ClassFile.FieldType.long) ∈ TB := TB_mem 1248 (by decide +kernel) (by decide +kernel)
set_option maxRecDepth 20000 in
theorem tb1250 : (Jvm.Cond.fieldLink "java/lang/String" (15 : Nat) "java/lang/String" "coder" "B") ∈ TB := TB_mem 1250 (by decide +kernel) (by decide +kernel)
set_option maxRecDepth 20000 in
theorem tb1251 : (Jvm.Cond.fieldLink "java/lang/String" (9 : Nat) "java/lang/String" "value" "[B") ∈ TB := TB_mem 1251 (by decide +kernel) (by decide +kernel)
