/-! ===== the law ahead of its turns ===== -/
theorem PG_ty2 {st : XS} {P Q1 Q2 : List Nat} {np n1 j1 n2 j2 : Nat} (hn : P.length = np) (g1 : Q1.length = j1) (g2 : Q2.length = j2) (h : PG st P) (h1 : ∀ i, i < Q1.length → n1 / 256 ^ i % 256 = Q1.getD i 0) (h2 : ∀ i, i < Q2.length → n2 / 256 ^ i % 256 = Q2.getD i 0) (hl : np + j1 + j2 ≤ 160) : PG (tyS (tyS st np n1 j1) (np + j1) n2 j2) (P ++ Q1 ++ Q2) := by
  subst hn g1 g2
  have e := PG_ty n2 (PG_ty n1 h h1 (by omega)) h2 (by rw [List.length_append]; omega)
  rw [List.length_append] at e
  exact e
theorem kTm0 : kTmpl 0 (nI 0) = 0 := by decide
set_option maxRecDepth 100000 in
theorem Ls0_n1 : ∀ k ∈ LsF 1, k ∉ Ls0 := by decide +kernel
theorem SQ_row {st : XS} (h : SQ st) : ∀ i, i < 6 → gb st 6 i = if i < 0 then some (300 + 4 * (fun _ : Nat => 0) i) else none := by
  intro i _
  rw [if_neg (Nat.not_lt_zero _)]; exact h.2.2.2.2.2.2.2.2.2.1 6 i
theorem hLs0 : ∀ k, xC k = true → k ∈ Ls0 := fun k h => Ls0_lo k (of_decide_eq_true h)
theorem hGs0 : ∀ j, j < 4 → 300 + 4 * 0 + j ∈ Ls0 := Ls0_f
set_option maxRecDepth 100000 in
theorem Ls9_n : (31 ∉ Ls0 ++ LsF 1) ∧ (32 ∉ Ls0 ++ LsF 1 ++ [31]) ∧ (33 ∉ Ls0 ++ LsF 1 ++ [31] ++ [32]) ∧ (34 ∉ Ls0 ++ LsF 1 ++ [31] ++ [32] ++ [33]) ∧ (35 ∉ Ls0 ++ LsF 1 ++ [31] ++ [32] ++ [33] ++ [34]) ∧ (36 ∉ Ls0 ++ LsF 1 ++ [31] ++ [32] ++ [33] ++ [34] ++ [35]) := by decide +kernel
set_option maxRecDepth 100000 in
theorem Ls9_i : (∀ x ∈ [0], x ∈ Ls0 ++ LsF 1) ∧ (∀ x ∈ [0, 31], x ∈ Ls0 ++ LsF 1 ++ [31]) ∧ (∀ x ∈ [0, 31, 32], x ∈ Ls0 ++ LsF 1 ++ [31] ++ [32]) ∧ (∀ x ∈ [0, 31, 32, 33], x ∈ Ls0 ++ LsF 1 ++ [31] ++ [32] ++ [33]) ∧ (∀ x ∈ [0, 31, 32, 33, 34], x ∈ Ls0 ++ LsF 1 ++ [31] ++ [32] ++ [33] ++ [34]) ∧ (∀ x ∈ [0, 31, 32, 33, 34, 35], x ∈ Ls0 ++ LsF 1 ++ [31] ++ [32] ++ [33] ++ [34] ++ [35]) := by decide +kernel
set_option maxRecDepth 100000 in
theorem by_A : (∀ i, i < pgF.length → 9036800836046253691 / 256 ^ i % 256 = pgF.getD i 0) ∧ csN 8 9036800836046253691 0 = some 8 := by decide +kernel
set_option maxRecDepth 100000 in
theorem by_B : (∀ i, i < [123, 110, 125, 58, 123, 42, 123, 105].length → 7600715504868486779 / 256 ^ i % 256 = [123, 110, 125, 58, 123, 42, 123, 105].getD i 0) ∧ csN 8 7600715504868486779 0 = some 8 := by decide +kernel
set_option maxRecDepth 100000 in
theorem by_C : (∀ i, i < [51, 125, 123, 63, 97, 62, 120, 43].length → 3132322128233987379 / 256 ^ i % 256 = [51, 125, 123, 63, 97, 62, 120, 43].getD i 0) ∧ csN 8 3132322128233987379 0 = some 8 := by decide +kernel
set_option maxRecDepth 100000 in
theorem by_D : (∀ i, i < [58, 65, 123, 107, 125, 124, 66, 42].length → 3045133176171872570 / 256 ^ i % 256 = [58, 65, 123, 107, 125, 124, 66, 42].getD i 0) ∧ csN 8 3045133176171872570 0 = some 8 := by decide +kernel
set_option maxRecDepth 100000 in
theorem by_E : (∀ i, i < [123, 113, 125, 125, 59, 42, 125].length → 35230807085642107 / 256 ^ i % 256 = [123, 113, 125, 125, 59, 42, 125].getD i 0) ∧ csN 8 35230807085642107 0 = some 7 := by decide +kernel
set_option maxRecDepth 100000 in
theorem by_F : (∀ i, i < [123, 63, 115, 61, 116, 58, 33, 125].length → 9016552199894024059 / 256 ^ i % 256 = [123, 63, 115, 61, 116, 58, 33, 125].getD i 0) ∧ csN 8 9016552199894024059 0 = some 8 := by decide +kernel
set_option maxRecDepth 100000 in
theorem by_G : (∀ i, i < [123, 103, 57, 125].length → 2100914043 / 256 ^ i % 256 = [123, 103, 57, 125].getD i 0) ∧ csN 8 2100914043 0 = some 4 := by decide +kernel
theorem by_0 (n : Nat) : ∀ i, i < ([] : List Nat).length → n / 256 ^ i % 256 = ([] : List Nat).getD i 0 := fun i h => absurd h (Nat.not_lt_zero _)
theorem dig_N (bd : Nat) (hb9 : bd < 1000) : nI (48 + bd / 100 + (48 + bd / 10 % 10) * 256 + (48 + bd % 10) * 65536) = nI (48 + bd / 100) + nI (48 + bd / 10 % 10) <<< (nI 8 &&& 31) + nI (48 + bd % 10) <<< (nI 16 &&& 31) := by
  rw [pk_shlN (nI 8 &&& 31) 8 (by decide) (by omega), pk_shlN (nI 16 &&& 31) 16 (by decide) (by omega), nI_add, nI_add]
set_option maxHeartbeats 4000000 in
set_option maxRecDepth 100000 in
theorem br_first {p : Program} {e : Env} {s : State} {m : MethodId} {below : List Frame} {meth : Method} {c : Code} (l : Launch) (hl0 : l.stackTraces = false) {D : va_G} {cy : Nat → ClassId} {b L : Nat} {xs : Nat → Int32} (C : xCx p m c code 31 s #[Value.ref b] RL D cy) (hE : xScr b L xs (lwA s) s s.heap) (hL9 : L ≤ 260) {ad : Nat → Nat} {H : Heap} {locs : List Loc} {ls : Array Slot} (h : xH D cy ad Ls0 (lwA s) s st0 H locs) (hl : lv_has ls 31 [(1, .ref (ad 0)), (0, .ref b)]) (K : ∀ bd, K98 p l e s m below meth c D cy b bd 0) : W p l e room_1 s m #[Value.ref b] below meth c H locs 30 1142 (lw_Z below #[Value.ref b] s) (F0 m 8 ls []) := by
  have hx := C.1
  have hb := C.2.1
  obtain ⟨n5, h5⟩ : ∃ n5 : Nat, n5 = 5 := ⟨5, rfl⟩
  refine lv_bipush (v := nI 100) hx hb dL_law_8 (by decide) ?_
  refine lv_aload_n hx hb dL_law_10 rfl (lv_at hl 1 rfl) ?_
  refine lv_iconst (v := nI 0) hx hb dL_law_11 (by decide) ?_
  refine cc_L_33 C h hE (by omega) (k := 0) (by omega) (by decide) ⟨by show _ ≤ 754712; omega, by show _ ≤ 6837489; omega⟩ hl.1 (Nat.le_of_ble_eq_true rfl) dL_law_12 (fun H locs h => ?_)
  refine lv_topi (fun x1 ex1 => ?_); clear ex1
  refine lv_sipush (v := nI 900) hx hb dL_law_15 (by decide) ?_
  refine cl_L_37 C h (c_L_low l D cy ad Ls0 st0 x1 900 (by omega) (by omega)) (by decide) ⟨by show _ ≤ 754712; omega, by show _ ≤ 6837489; omega⟩ hl.1 (Nat.le_of_ble_eq_true rfl) dL_law_18 (fun r4 u3 H locs hp h => ?_)
  obtain ⟨er4, eu3⟩ := hp; rw [eu3] at h; clear eu3 u3; refine x_topi er4 ?_; clear er4 r4
  obtain ⟨w5, ew5⟩ : ∃ z9, z9 = lowN x1 900 := ⟨_, rfl⟩; have hw5 : w5 < 900 := (by rw [ew5]; exact lowN_lt (by omega)); rw [← ew5]; clear ew5
  refine x_addN hx hb dL_law_21 ?_
  obtain ⟨bd, ebd⟩ : ∃ z, z = 100 + w5 := ⟨_, rfl⟩; rw [← ebd]
  have hb1 : 100 ≤ bd := by omega
  have hb9 : bd < 1000 := by omega
  refine lv_istore_n (lv' := [(2, .int (nI bd)), (1, .ref (ad 0)), (0, .ref b)]) hx hb dL_law_22 rfl hl (by decide) rfl (fun ls hl => ?_)
  refine lv_iconst (v := nI 1) hx hb dL_law_23 (by decide) ?_
  refine lv_istore_n (lv' := [(3, .int (nI 1)), (2, .int (nI bd)), (1, .ref (ad 0)), (0, .ref b)]) hx hb dL_law_24 rfl hl (by decide) rfl (fun ls hl => ?_)
  refine lv_aload_n hx hb dL_law_25 rfl (lv_at hl 2 rfl) ?_
  refine lv_ldc2 (v := 9036800836046253691) hx hb C.2.2.2.1 (C.2.2.2.2.1 _ tb806) dL_law_26 ?_
  refine x_topl (y := lN 9036800836046253691) rfl ?_
  refine lv_lconst (v := 0) hx hb dL_law_29 (by decide) ?_
  refine x_topl (y := lN 0) rfl ?_
  refine ca_L_43 C h (c_L_types l D cy ad Ls0 st0 hl0 hLs0 0 PG0.1 9036800836046253691 0 8 0 (by omega) (by omega) by_A.2 rfl (by omega)) (by decide) ⟨by show _ ≤ 754712; omega, by show _ ≤ 6837489; omega⟩ hl.1 (Nat.le_of_ble_eq_true rfl) dL_law_30 (fun r9 u0 H locs hp h => ?_)
  obtain ⟨er9, eu9⟩ := hp; refine x_topi er9 ?_; clear er9 r9
  have hSu0 : SQ u0 := by rw [eu9]; exact SQ_ty (SQ_ty SQ0 _ _ _) _ _ _
  have hPu0 : PG u0 (([] : List Nat) ++ pgF ++ ([] : List Nat)) := by rw [eu9]; exact PG_ty2 rfl rfl rfl PG0 by_A.1 (by_0 0) (by omega)
  clear eu9
  refine lv_if_ne (tgt := 38) hx hb dL_law_33 (by decide) (fun _ => ?_) (fun q => absurd q (by decide))
  refine lv_aload_n hx hb dL_law_38 rfl (lv_at hl 2 rfl) ?_
  refine lv_iconst (v := nI 0) hx hb dL_law_39 (by decide) ?_
  refine cG_L_47 C h (hLs0 0 rfl) rfl (c_X7_template l hl0 D cy ad Ls0 u0 hLs0 (g := 0) (by decide) hGs0 hSu0.1 8 hPu0.1 n5 h5 0 (by decide) (fun _ => 0) (SQ_row hSu0) hSu0.2.2.1 1 (by decide) hSu0.2.2.2.2.2.2.2.2.2.2.2.2 Ls0_n1 (nI 0)) (by decide) ⟨by show _ ≤ 754712; omega, by show _ ≤ 6837489; omega⟩ hl.1 (Nat.le_of_ble_eq_true rfl) dL_law_40 (x_noX kTm0) (fun r9 U9 H locs hp h => ?_)
  obtain ⟨-, er9, hh⟩ := hp
  rw [rd1 hPu0 h5] at er9
  have eU := (hh.resolve_right (fun q9 => absurd (show r9 < 0 by rw [er9]; decide) q9.1)).2
  refine x_topi er9 ?_
  rw [eU] at h
  obtain ⟨u8, eu8⟩ : ∃ z, z = rdU u0 0 8 n5 := ⟨_, rfl⟩
  replace h : xH D cy ad Ls0 (lwA s) s u8 H locs := by rw [eu8]; exact h
  have hSu8 : SQ u8 := by rw [eu8]; exact SQ_rd hSu0 8 n5
  have hPu8 : PG u8 [] := by rw [eu8]; exact PG_rd _ _ _
  clear eu8 eU hh er9 r9 U9 hSu0 hPu0
  refine lv_bipush (v := -8) hx hb dL_law_43 (by decide) ?_
  refine x_icmp_eq_t (tgt := 50) hx hb dL_law_45 (by decide) rfl ?_
  refine lv_aload_n hx hb dL_law_50 rfl (lv_at hl 2 rfl) ?_
  refine lv_ldc2 (v := 7600715504868486779) hx hb C.2.2.2.1 (C.2.2.2.2.1 _ tb807) dL_law_51 ?_
  refine x_topl (y := lN 7600715504868486779) rfl ?_
  refine lv_ldc2 (v := 3132322128233987379) hx hb C.2.2.2.1 (C.2.2.2.2.1 _ tb808) dL_law_54 ?_
  refine x_topl (y := lN 3132322128233987379) rfl ?_
  refine ca_L_43 C h (c_L_types l D cy ad Ls0 u8 hl0 hLs0 0 hPu8.1 7600715504868486779 3132322128233987379 8 8 (by omega) (by omega) by_B.2 by_C.2 (by omega)) (by decide) ⟨by show _ ≤ 754712; omega, by show _ ≤ 6837489; omega⟩ hl.1 (Nat.le_of_ble_eq_true rfl) dL_law_57 (fun r9 u1 H locs hp h => ?_)
  obtain ⟨er9, eu9⟩ := hp; refine x_topi er9 ?_; clear er9 r9
  have hSu1 : SQ u1 := by rw [eu9]; exact SQ_ty (SQ_ty hSu8 _ _ _) _ _ _
  have hPu1 : PG u1 (([] : List Nat) ++ [123, 110, 125, 58, 123, 42, 123, 105] ++ [51, 125, 123, 63, 97, 62, 120, 43]) := by rw [eu9]; exact PG_ty2 rfl rfl rfl hPu8 by_B.1 by_C.1 (by omega)
  clear eu9
  refine lv_if_ne (tgt := 65) hx hb dL_law_60 (by decide) (fun _ => ?_) (fun q => absurd q (by decide))
  refine lv_bipush (v := nI 48) hx hb dL_law_65 (by decide) ?_
  refine lv_iload_n hx hb dL_law_67 rfl (lv_at hl 1 rfl) ?_
  refine lv_bipush (v := nI 100) hx hb dL_law_68 (by decide) ?_
  refine lv_idiv hx hb dL_law_70 (by decide) ?_
  refine x_topi (y := nI (bd / 100)) (pk_div (by omega) (by decide) (by decide)) ?_
  refine x_addN hx hb dL_law_71 ?_
  refine lv_bipush (v := nI 48) hx hb dL_law_72 (by decide) ?_
  refine lv_iload_n hx hb dL_law_74 rfl (lv_at hl 1 rfl) ?_
  refine lv_bipush (v := nI 10) hx hb dL_law_75 (by decide) ?_
  refine lv_idiv hx hb dL_law_77 (by decide) ?_
  refine x_topi (y := nI (bd / 10)) (pk_div (by omega) (by decide) (by decide)) ?_
  refine lv_bipush (v := nI 10) hx hb dL_law_78 (by decide) ?_
  refine lv_irem hx hb dL_law_80 (by decide) ?_
  refine x_topi (y := nI (bd / 10 % 10)) (pk_rem (by omega) (by decide) (by decide)) ?_
  refine x_addN hx hb dL_law_81 ?_
  refine lv_bipush (v := nI 8) hx hb dL_law_82 (by decide) ?_
  refine lv_ishl hx hb dL_law_84 ?_
  refine lv_iadd hx hb dL_law_85 ?_
  refine lv_bipush (v := nI 48) hx hb dL_law_86 (by decide) ?_
  refine lv_iload_n hx hb dL_law_88 rfl (lv_at hl 1 rfl) ?_
  refine lv_bipush (v := nI 10) hx hb dL_law_89 (by decide) ?_
  refine lv_irem hx hb dL_law_91 (by decide) ?_
  refine x_topi (y := nI (bd % 10)) (pk_rem (by omega) (by decide) (by decide)) ?_
  refine x_addN hx hb dL_law_92 ?_
  refine lv_bipush (v := nI 16) hx hb dL_law_93 (by decide) ?_
  refine lv_ishl hx hb dL_law_95 ?_
  refine lv_iadd hx hb dL_law_96 ?_
  refine x_topi (dig_N bd hb9).symm ?_
  obtain ⟨N9, eN⟩ : ∃ z, z = 48 + bd / 100 + (48 + bd / 10 % 10) * 256 + (48 + bd % 10) * 65536 := ⟨_, rfl⟩; rw [← eN]
  have hN9 : N9 < 2 ^ 31 := by omega
  have cN : csN 8 N9 0 = some 3 := by rw [eN]; exact csN_3 (by omega) (by omega) (by omega)
  have bN : ∀ i, i < [48 + bd / 100, 48 + bd / 10 % 10, 48 + bd % 10].length → N9 / 256 ^ i % 256 = [48 + bd / 100, 48 + bd / 10 % 10, 48 + bd % 10].getD i 0 := by rw [eN]; exact by_3 (by omega) (by omega) (by omega)
  clear eN
  refine lv_i2l hx hb dL_law_97 (nI_l hN9) ?_
  refine lv_lstore (lv' := [(4, .long (lN N9)), (3, .int (nI 1)), (2, .int (nI bd)), (1, .ref (ad 0)), (0, .ref b)]) hx hb dL_law_98 hl (by decide) rfl (fun ls hl => ?_)
  refine lv_aload_n hx hb dL_law_100 rfl (lv_at hl 3 rfl) ?_
  refine lv_lload hx hb dL_law_101 (lv_at hl 0 rfl) ?_
  refine lv_ldc2 (v := 3045133176171872570) hx hb C.2.2.2.1 (C.2.2.2.2.1 _ tb809) dL_law_103 ?_
  refine x_topl (y := lN 3045133176171872570) rfl ?_
  refine ca_L_43 C h (c_L_types l D cy ad Ls0 u1 hl0 hLs0 16 hPu1.1 N9 3045133176171872570 3 8 (by omega) (by omega) cN by_D.2 (by omega)) (by decide) ⟨by show _ ≤ 754712; omega, by show _ ≤ 6837489; omega⟩ hl.1 (Nat.le_of_ble_eq_true rfl) dL_law_106 (fun r9 u2 H locs hp h => ?_)
  obtain ⟨er9, eu9⟩ := hp; refine x_topi er9 ?_; clear er9 r9
  have hSu2 : SQ u2 := by rw [eu9]; exact SQ_ty (SQ_ty hSu1 _ _ _) _ _ _
  have hPu2 : PG u2 (([] ++ [123, 110, 125, 58, 123, 42, 123, 105] ++ [51, 125, 123, 63, 97, 62, 120, 43]) ++ [48 + bd / 100, 48 + bd / 10 % 10, 48 + bd % 10] ++ [58, 65, 123, 107, 125, 124, 66, 42]) := by rw [eu9]; exact PG_ty2 rfl rfl rfl hPu1 bN by_D.1 (by omega)
  clear eu9
  refine lv_if_eq (tgt := 146) hx hb dL_law_109 (by decide) (fun q => absurd q (by decide)) (fun _ => ?_)
  refine lv_aload_n hx hb dL_law_112 rfl (lv_at hl 3 rfl) ?_
  refine lv_ldc2 (v := 35230807085642107) hx hb C.2.2.2.1 (C.2.2.2.2.1 _ tb810) dL_law_113 ?_
  refine x_topl (y := lN 35230807085642107) rfl ?_
  refine lv_ldc2 (v := 9016552199894024059) hx hb C.2.2.2.1 (C.2.2.2.2.1 _ tb811) dL_law_116 ?_
  refine x_topl (y := lN 9016552199894024059) rfl ?_
  refine ca_L_43 C h (c_L_types l D cy ad Ls0 u2 hl0 hLs0 27 hPu2.1 35230807085642107 9016552199894024059 7 8 (by omega) (by omega) by_E.2 by_F.2 (by omega)) (by decide) ⟨by show _ ≤ 754712; omega, by show _ ≤ 6837489; omega⟩ hl.1 (Nat.le_of_ble_eq_true rfl) dL_law_119 (fun r9 u3 H locs hp h => ?_)
  obtain ⟨er9, eu9⟩ := hp; refine x_topi er9 ?_; clear er9 r9
  have hSu3 : SQ u3 := by rw [eu9]; exact SQ_ty (SQ_ty hSu2 _ _ _) _ _ _
  have hPu3 : PG u3 ((([] ++ [123, 110, 125, 58, 123, 42, 123, 105] ++ [51, 125, 123, 63, 97, 62, 120, 43]) ++ [48 + bd / 100, 48 + bd / 10 % 10, 48 + bd % 10] ++ [58, 65, 123, 107, 125, 124, 66, 42]) ++ [123, 113, 125, 125, 59, 42, 125] ++ [123, 63, 115, 61, 116, 58, 33, 125]) := by rw [eu9]; exact PG_ty2 rfl rfl rfl hPu2 by_E.1 by_F.1 (by omega)
  clear eu9
  refine lv_if_eq (tgt := 146) hx hb dL_law_122 (by decide) (fun q => absurd q (by decide)) (fun _ => ?_)
  refine lv_aload_n hx hb dL_law_125 rfl (lv_at hl 3 rfl) ?_
  refine lv_ldc2 (v := 2100914043) hx hb C.2.2.2.1 (C.2.2.2.2.1 _ tb812) dL_law_126 ?_
  refine x_topl (y := lN 2100914043) rfl ?_
  refine lv_lconst (v := 0) hx hb dL_law_129 (by decide) ?_
  refine x_topl (y := lN 0) rfl ?_
  refine ca_L_43 C h (c_L_types l D cy ad Ls0 u3 hl0 hLs0 42 hPu3.1 2100914043 0 4 0 (by omega) (by omega) by_G.2 rfl (by omega)) (by decide) ⟨by show _ ≤ 754712; omega, by show _ ≤ 6837489; omega⟩ hl.1 (Nat.le_of_ble_eq_true rfl) dL_law_130 (fun r9 u4 H locs hp h => ?_)
  obtain ⟨er9, eu9⟩ := hp; refine x_topi er9 ?_; clear er9 r9
  have hSu4 : SQ u4 := by rw [eu9]; exact SQ_ty (SQ_ty hSu3 _ _ _) _ _ _
  have hPu4 : PG u4 (((([] ++ [123, 110, 125, 58, 123, 42, 123, 105] ++ [51, 125, 123, 63, 97, 62, 120, 43]) ++ [48 + bd / 100, 48 + bd / 10 % 10, 48 + bd % 10] ++ [58, 65, 123, 107, 125, 124, 66, 42]) ++ [123, 113, 125, 125, 59, 42, 125] ++ [123, 63, 115, 61, 116, 58, 33, 125]) ++ [123, 103, 57, 125] ++ ([] : List Nat)) := by rw [eu9]; exact PG_ty2 rfl rfl rfl hPu3 by_G.1 (by_0 0) (by omega)
  clear eu9
  refine lv_if_eq (tgt := 146) hx hb dL_law_133 (by decide) (fun q => absurd q (by decide)) (fun _ => ?_)
  have hPg : PG u4 (pgL bd) := hPu4
  refine lv_aload_n hx hb dL_law_136 rfl (lv_at hl 3 rfl) ?_
  refine lv_iconst (v := nI 0) hx hb dL_law_137 (by decide) ?_
  refine cG_L_47 C h (hLs0 0 rfl) rfl (c_X7_template l hl0 D cy ad Ls0 u4 hLs0 (g := 0) (by decide) hGs0 hSu4.1 46 hPg.1 n5 h5 0 (by decide) (fun _ => 0) (SQ_row hSu4) hSu4.2.2.1 1 (by decide) hSu4.2.2.2.2.2.2.2.2.2.2.2.2 Ls0_n1 (nI 0)) (by decide) ⟨by show _ ≤ 754712; omega, by show _ ≤ 6837489; omega⟩ hl.1 (Nat.le_of_ble_eq_true rfl) dL_law_138 (x_noX kTm0) (fun r9 U9 H locs hp h => ?_)
  obtain ⟨-, er9, hh⟩ := hp
  rw [rd2r (rd2 hb1 hb9 hPg h5)] at er9
  refine x_topi er9 ?_
  rcases hh with ⟨q9, -⟩ | ⟨-, j9, ej, ⟨q9, -⟩ | ⟨q9, ad0, hne0, eU⟩⟩
  · exact absurd q9 (by rw [er9]; decide)
  · exact absurd q9 (Nat.not_lt_zero _)
  rw [q9] at eU
  rw [eU] at h
  replace h : xH D cy ad0 (Ls0 ++ LsF 1) (lwA s) s (uT (rdU u4 0 46 n5)) H locs := h
  have hcl : xCl (uT (rdU u4 0 46 n5)) (Ls0 ++ LsF 1) := uT_Cl (SQ_rd hSu4 46 n5).2.2.2.2.2.2.2.2.2.2.2.2
  refine lv_bipush (v := nI 8) hx hb dL_law_141 (by decide) ?_
  refine x_icmp_eq_t (tgt := 148) hx hb dL_law_143 (by decide) rfl ?_
  obtain ⟨m31, m32, m33, m34, m35, m36⟩ := Ls9_n
  refine lv_bipush (v := nI 64) hx hb dL_law_148 (by decide) ?_
  refine x_mkI C h hcl (k := 31) (n := 64) m31 rfl (by decide) (by show _ ≤ 754712; omega) (by show _ ≤ 6837489; omega) dL_law_150 (fun ad1 H hne1 h hcl => ?_)
  refine lv_astore (lv' := [(6, .ref (ad1 31)), (4, .long (lN N9)), (3, .int (nI 1)), (2, .int (nI bd)), (1, .ref (ad 0)), (0, .ref b)]) hx hb dL_law_152 hl (by decide) rfl (fun ls hl => ?_)
  refine lv_bipush (v := nI 64) hx hb dL_law_154 (by decide) ?_
  refine x_mkI C h hcl (k := 32) (n := 64) m32 rfl (by decide) (by show _ ≤ 754712; omega) (by show _ ≤ 6837489; omega) dL_law_156 (fun ad2 H hne2 h hcl => ?_)
  refine lv_astore (lv' := [(7, .ref (ad2 32)), (6, .ref (ad1 31)), (4, .long (lN N9)), (3, .int (nI 1)), (2, .int (nI bd)), (1, .ref (ad 0)), (0, .ref b)]) hx hb dL_law_158 hl (by decide) rfl (fun ls hl => ?_)
  refine lv_bipush (v := nI 64) hx hb dL_law_160 (by decide) ?_
  refine x_mkI C h hcl (k := 33) (n := 64) m33 rfl (by decide) (by show _ ≤ 754712; omega) (by show _ ≤ 6837489; omega) dL_law_162 (fun ad3 H hne3 h hcl => ?_)
  refine lv_astore (lv' := [(8, .ref (ad3 33)), (7, .ref (ad2 32)), (6, .ref (ad1 31)), (4, .long (lN N9)), (3, .int (nI 1)), (2, .int (nI bd)), (1, .ref (ad 0)), (0, .ref b)]) hx hb dL_law_164 hl (by decide) rfl (fun ls hl => ?_)
  refine lv_bipush (v := nI 32) hx hb dL_law_166 (by decide) ?_
  refine x_mkI C h hcl (k := 34) (n := 32) m34 rfl (by decide) (by show _ ≤ 754712; omega) (by show _ ≤ 6837489; omega) dL_law_168 (fun ad4 H hne4 h hcl => ?_)
  refine lv_astore (lv' := [(9, .ref (ad4 34)), (8, .ref (ad3 33)), (7, .ref (ad2 32)), (6, .ref (ad1 31)), (4, .long (lN N9)), (3, .int (nI 1)), (2, .int (nI bd)), (1, .ref (ad 0)), (0, .ref b)]) hx hb dL_law_170 hl (by decide) rfl (fun ls hl => ?_)
  refine lv_bipush (v := nI 16) hx hb dL_law_172 (by decide) ?_
  refine x_mkI C h hcl (k := 35) (n := 16) m35 rfl (by decide) (by show _ ≤ 754712; omega) (by show _ ≤ 6837489; omega) dL_law_174 (fun ad5 H hne5 h hcl => ?_)
  refine lv_astore (lv' := [(10, .ref (ad5 35)), (9, .ref (ad4 34)), (8, .ref (ad3 33)), (7, .ref (ad2 32)), (6, .ref (ad1 31)), (4, .long (lN N9)), (3, .int (nI 1)), (2, .int (nI bd)), (1, .ref (ad 0)), (0, .ref b)]) hx hb dL_law_176 hl (by decide) rfl (fun ls hl => ?_)
  refine lv_iconst (v := nI 4) hx hb dL_law_178 (by decide) ?_
  refine x_mkI C h hcl (k := 36) (n := 4) m36 rfl (by decide) (by show _ ≤ 754712; omega) (by show _ ≤ 6837489; omega) dL_law_179 (fun ad6 H hne6 h hcl => ?_)
  refine lv_astore (lv' := [(11, .ref (ad6 36)), (10, .ref (ad5 35)), (9, .ref (ad4 34)), (8, .ref (ad3 33)), (7, .ref (ad2 32)), (6, .ref (ad1 31)), (4, .long (lN N9)), (3, .int (nI 1)), (2, .int (nI bd)), (1, .ref (ad 0)), (0, .ref b)]) hx hb dL_law_181 hl (by decide) rfl (fun ls hl => ?_)
  refine lv_iconst (v := nI 0) hx hb dL_law_183 (by decide) ?_
  refine lv_istore (lv' := [(12, .int (nI 0)), (11, .ref (ad6 36)), (10, .ref (ad5 35)), (9, .ref (ad4 34)), (8, .ref (ad3 33)), (7, .ref (ad2 32)), (6, .ref (ad1 31)), (4, .long (lN N9)), (3, .int (nI 1)), (2, .int (nI bd)), (1, .ref (ad 0)), (0, .ref b)]) hx hb dL_law_184 hl (by decide) rfl (fun ls hl => ?_)
  refine lv_iconst (v := nI 0) hx hb dL_law_186 (by decide) ?_
  refine lv_istore (lv' := [(13, .int (nI 0)), (12, .int (nI 0)), (11, .ref (ad6 36)), (10, .ref (ad5 35)), (9, .ref (ad4 34)), (8, .ref (ad3 33)), (7, .ref (ad2 32)), (6, .ref (ad1 31)), (4, .long (lN N9)), (3, .int (nI 1)), (2, .int (nI bd)), (1, .ref (ad 0)), (0, .ref b)]) hx hb dL_law_187 hl (by decide) rfl (fun ls hl => ?_)
  refine lv_iconst (v := nI 0) hx hb dL_law_189 (by decide) ?_
  refine lv_istore (lv' := [(14, .int (nI 0)), (13, .int (nI 0)), (12, .int (nI 0)), (11, .ref (ad6 36)), (10, .ref (ad5 35)), (9, .ref (ad4 34)), (8, .ref (ad3 33)), (7, .ref (ad2 32)), (6, .ref (ad1 31)), (4, .long (lN N9)), (3, .int (nI 1)), (2, .int (nI bd)), (1, .ref (ad 0)), (0, .ref b)]) hx hb dL_law_190 hl (by decide) rfl (fun ls hl => ?_)
  refine lv_iconst (v := nI 0) hx hb dL_law_192 (by decide) ?_
  refine lv_istore (lv' := [(15, .int (nI 0)), (14, .int (nI 0)), (13, .int (nI 0)), (12, .int (nI 0)), (11, .ref (ad6 36)), (10, .ref (ad5 35)), (9, .ref (ad4 34)), (8, .ref (ad3 33)), (7, .ref (ad2 32)), (6, .ref (ad1 31)), (4, .long (lN N9)), (3, .int (nI 1)), (2, .int (nI bd)), (1, .ref (ad 0)), (0, .ref b)]) hx hb dL_law_193 hl (by decide) rfl (fun ls hl => ?_)
  refine lv_iconst (v := nI 0) hx hb dL_law_195 (by decide) ?_
  refine lv_istore (lv' := [(16, .int (nI 0)), (15, .int (nI 0)), (14, .int (nI 0)), (13, .int (nI 0)), (12, .int (nI 0)), (11, .ref (ad6 36)), (10, .ref (ad5 35)), (9, .ref (ad4 34)), (8, .ref (ad3 33)), (7, .ref (ad2 32)), (6, .ref (ad1 31)), (4, .long (lN N9)), (3, .int (nI 1)), (2, .int (nI bd)), (1, .ref (ad 0)), (0, .ref b)]) hx hb dL_law_196 hl (by decide) rfl (fun ls hl => ?_)
  obtain ⟨i1, i2, i3, i4, i5, i6⟩ := Ls9_i
  have z0 : ad 0 = ad6 0 := by rw [hne6 0 (i6 0 (by decide)), hne5 0 (i5 0 (by decide)), hne4 0 (i4 0 (by decide)), hne3 0 (i3 0 (by decide)), hne2 0 (i2 0 (by decide)), hne1 0 (i1 0 (by decide)), hne0 0 (hLs0 0 rfl)]
  have z1 : ad1 31 = ad6 31 := by rw [hne6 31 (i6 31 (by decide)), hne5 31 (i5 31 (by decide)), hne4 31 (i4 31 (by decide)), hne3 31 (i3 31 (by decide)), hne2 31 (i2 31 (by decide))]
  have z2 : ad2 32 = ad6 32 := by rw [hne6 32 (i6 32 (by decide)), hne5 32 (i5 32 (by decide)), hne4 32 (i4 32 (by decide)), hne3 32 (i3 32 (by decide))]
  have z3 : ad3 33 = ad6 33 := by rw [hne6 33 (i6 33 (by decide)), hne5 33 (i5 33 (by decide)), hne4 33 (i4 33 (by decide))]
  have z4 : ad4 34 = ad6 34 := by rw [hne6 34 (i6 34 (by decide)), hne5 34 (i5 34 (by decide))]
  have z5 : ad5 35 = ad6 35 := by rw [hne6 35 (i6 35 (by decide))]
  rw [z0, z1, z2, z3, z4, z5] at hl
  have hI : PI Ls9 (uR (uT (rdU u4 0 46 n5))) bd 0 0 0 0 (fun _ => 0) := PI_first hb1 hb9 hSu4 hPg h5 hcl
  refine W.widen (k := 1000 + 4000 * 0) (n := 10000 + 40000 * 0) (by omega) (by omega) ?_
  exact K bd ad6 Ls9 _ H locs ls 1 0 0 0 0 (fun _ => 0) (by omega) (by omega) h hI (lv_sub hl [15, 14, 13, 12, 10, 9, 8, 7, 6, 5, 4, 3, 2, 1, 0] rfl)
