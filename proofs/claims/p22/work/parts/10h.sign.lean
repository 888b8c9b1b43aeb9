set_option maxHeartbeats 4000000 in
set_option maxRecDepth 100000 in
theorem c_L_types (l : Launch) (D : va_G) (cy : Nat → ClassId) (ad : Nat → Nat) (Ls : List Nat) (st : XS) (hl0 : l.stackTraces = false) (hL : ∀ k, xC k = true → k ∈ Ls) (np : Nat) (hnp : gi st 1 2 = nI np) (n1 n2 j1 j2 : Nat) (h163 : n1 < 2 ^ 63) (h263 : n2 < 2 ^ 63) (hj1 : csN 8 n1 0 = some j1) (hj2 : csN 8 n2 0 = some j2) (hnp9 : np + j1 + j2 ≤ 160) : xAi l yL_types cL_types 8 (some .boolean) 9 12 72 D cy ad Ls st [.ref (ad 0), .long (lN n1), .long (lN n2)] (fun r u => r = bi true ∧ u = tyS (tyS st np n1 j1) (np + j1) n2 j2) := by
  intro sz
  refine x_of sz (by decide +kernel) (Nat.le_of_ble_eq_true rfl) ?_
  intro p e s m args below meth c ls hx hb hr hlocks C hsz h hl
  have hl : lv_has ls 8 [(0, .ref (ad 0)), (1, .long (lN n1)), (3, .long (lN n2))] := hl
  obtain ⟨H, eH⟩ : ∃ z, z = s.heap := ⟨_, rfl⟩
  obtain ⟨locs, eL⟩ : ∃ z : List Loc, z = [] := ⟨_, rfl⟩
  rw [← eH, ← eL] at h
  rw [← eH, ← eL]
  clear eH eL
  refine lv_aload_n hx hb dL_types_0 rfl (lv_at hl 0 rfl) ?_
  refine lv_lconst (v := 0) hx hb dL_types_1 (by decide) ?_
  have hc0 : csN 8 0 0 = some 0 := rfl
  have hk0 : kType np 0 = 0 := by unfold kType; rw [hc0]; exact if_neg (by omega)
  refine cx_L_20 C h (hL 0 rfl) rfl (c_X7_type l hl0 D cy ad Ls st hL np (by omega) hnp 0 (by omega)) (x_roomX (by omega)) ⟨by show _ ≤ 12; omega, by show _ ≤ 72; omega⟩ hl.1 (Nat.le_of_ble_eq_true rfl) dL_types_2 (x_noX hk0) (fun r2 u1 H locs hp h => ?_)
  obtain ⟨-, j9, hj9, er, eu⟩ := hp; rw [show j9 = 0 from Option.some.inj (hj9.symm.trans hc0)] at er eu; clear hj9 j9
  replace eu : u1 = tyS st np 0 0 := eu
  rw [tyS_0 hnp] at eu; rw [eu] at h; clear eu u1; refine x_topi (y := nI np) er ?_; clear er r2
  refine lv_istore (lv' := [(5, .int (nI np)), (0, .ref (ad 0)), (1, .long (lN n1)), (3, .long (lN n2))]) hx hb dL_types_5 hl (by decide) rfl (fun ls hl => ?_)
  refine lv_iconst (v := nI 0) hx hb dL_types_7 (by decide) ?_
  refine lv_istore (lv' := [(6, .int (nI 0)), (5, .int (nI np)), (0, .ref (ad 0)), (1, .long (lN n1)), (3, .long (lN n2))]) hx hb dL_types_8 hl (by decide) rfl (fun ls hl => ?_)
  refine lv_iconst (v := nI 0) hx hb dL_types_10 (by decide) ?_
  refine lv_istore (lv' := [(7, .int (nI 0)), (6, .int (nI 0)), (5, .int (nI np)), (0, .ref (ad 0)), (1, .long (lN n1)), (3, .long (lN n2))]) hx hb dL_types_11 hl (by decide) rfl (fun ls hl => ?_)
  have L13 : ∀ (N13 : Nat) (k : Nat) (m9 : Nat) (hm9 : m9 = bcn n1 k + bcn n2 k) (hk : k ≤ 8) (hN : 8 - k < N13) (H : Heap) (locs : List Loc) (ls : Array Slot), xH D cy ad Ls (XA ad Ls sz) s st H locs → lv_has ls 8 [(0, .ref (ad 0)), (1, .long (lN n1)), (3, .long (lN n2)), (5, .int (nI np)), (6, .int (nI m9)), (7, .int (nI k))] → W p l e (xRX 9 12 72) s m args below meth c H locs (0 + 4) (0 + 24) (MQ below (va_Qi (fun r u => r = bi true ∧ u = tyS (tyS st np n1 j1) (np + j1) n2 j2) (fun u => xPost D cy ad Ls (XA ad Ls sz) u) (XA ad Ls sz)) args s 12 72 (XA ad Ls sz)) (F0 m 13 ls []) := by
    intro N13
    induction N13 with
    | zero => intro k m9 hm9 hk hN; omega
    | succ N13 ih13 =>
      intro k m9 hm9 hk hN H locs ls h hl
      refine lv_iload hx hb dL_types_13 (lv_at hl 5 rfl) ?_
      refine lv_bipush (v := nI 8) hx hb dL_types_15 (by decide) ?_
      refine x_icmpN_ge (tgt := 64) hx hb dL_types_17 (by decide) (by omega) (by omega) (fun c17 => ?_) (fun c17 => ?_)
      · refine lv_aload_n hx hb dL_types_64 rfl (lv_at hl 0 rfl) ?_
        refine lv_lload_n hx hb dL_types_65 rfl (lv_at hl 1 rfl) ?_
        have hk1 : kType np n1 = 0 := by unfold kType; rw [hj1]; exact if_neg (by omega)
        refine cx_L_20 C h (hL 0 rfl) rfl (c_X7_type l hl0 D cy ad Ls st hL np (by omega) hnp n1 (by omega)) (x_roomX (by omega)) ⟨by show _ ≤ 12; omega, by show _ ≤ 72; omega⟩ hl.1 (Nat.le_of_ble_eq_true rfl) dL_types_66 (x_noX hk1) (fun r4 u3 H locs hp h => ?_)
        obtain ⟨-, j9, hj9, er, eu⟩ := hp; rw [show j9 = j1 from Option.some.inj (hj9.symm.trans hj1)] at er eu; clear hj9 j9
        replace eu : u3 = tyS st np n1 j1 := eu
        have gu3 : gi u3 1 2 = nI (np + j1) := by rw [eu]; exact (gi_si ..).trans (if_pos ⟨rfl, rfl⟩)
        refine x_topi (y := nI (np + j1)) er ?_; clear er r4
        have eu3 := eu; clear eu
        refine lv_pop hx hb dL_types_69 rfl ?_
        refine lv_aload_n hx hb dL_types_70 rfl (lv_at hl 0 rfl) ?_
        refine lv_lload_n hx hb dL_types_71 rfl (lv_at hl 2 rfl) ?_
        have hk2 : kType (np + j1) n2 = 0 := by unfold kType; rw [hj2]; exact if_neg (by omega)
        refine cx_L_20 C h (hL 0 rfl) rfl (c_X7_type l hl0 D cy ad Ls u3 hL (np + j1) (by omega) gu3 n2 (by omega)) (x_roomX (by omega)) ⟨by show _ ≤ 12; omega, by show _ ≤ 72; omega⟩ hl.1 (Nat.le_of_ble_eq_true rfl) dL_types_72 (x_noX hk2) (fun r6 u5 H locs hp h => ?_)
        obtain ⟨-, j9, hj9, er, eu⟩ := hp; rw [show j9 = j2 from Option.some.inj (hj9.symm.trans hj2)] at er eu; clear hj9 j9
        replace eu : u5 = tyS u3 (np + j1) n2 j2 := eu
        have gu5 : gi u5 1 2 = nI (np + j1 + j2) := by rw [eu]; exact (gi_si ..).trans (if_pos ⟨rfl, rfl⟩)
        refine x_topi (y := nI (np + j1 + j2)) er ?_; clear er r6
        have eu5 := eu; clear eu
        refine lv_iload hx hb dL_types_75 (lv_at hl 3 rfl) ?_
        refine lv_iload hx hb dL_types_77 (lv_at hl 4 rfl) ?_
        refine x_addN hx hb dL_types_79 ?_
        refine x_icmp_ne_f (tgt := 87) hx hb dL_types_80 (by decide) (by rw [show m9 = j1 + j2 by rw [hm9, show k = 8 by omega, csN_b 8 n1 0 j1 hj1 (Nat.lt_trans h163 (by decide)) rfl, csN_b 8 n2 0 j2 hj2 (Nat.lt_trans h263 (by decide)) rfl]; omega, Nat.add_assoc]) ?_
        refine lv_iconst (v := nI 1) hx hb dL_types_83 (by decide) ?_
        refine lv_goto (tgt := 88) hx hb dL_types_84 (by decide) ?_
        refine W.widen (k := 12) (n := 72) (by omega) (by omega) ?_
        exact x_zret C hr hlocks (by first | rfl | exact bi_zn _ | decide) h ⟨by rfl, by rw [eu5, eu3]⟩ dL_types_88
      · refine lv_lload_n hx hb dL_types_20 rfl (lv_at hl 1 rfl) ?_
        refine lv_bipush (v := nI 8) hx hb dL_types_21 (by decide) ?_
        refine lv_iload hx hb dL_types_23 (lv_at hl 5 rfl) ?_
        refine x_mulN hx hb dL_types_25 ?_
        refine lv_lshr hx hb dL_types_26 rfl ?_
        refine lv_ldc2 (v := 255) hx hb C.2.2.2.1 (C.2.2.2.2.1 _ tb799) dL_types_27 ?_
        refine lv_land hx hb dL_types_30 ?_
        refine x_topl (y := lN (n1 / 256 ^ k % 256)) (wb_b8 h163 (by omega)) ?_
        refine lv_lconst (v := 0) hx hb dL_types_31 (by decide) ?_
        refine x_lcmp hx hb dL_types_32 (fun r7 hr7 => ?_)
        refine lv_if_eq (tgt := 39) hx hb dL_types_33 (by decide) (fun c33 => ?_) (fun c33 => ?_)
        · refine lv_lload_n hx hb dL_types_39 rfl (lv_at hl 2 rfl) ?_
          refine lv_bipush (v := nI 8) hx hb dL_types_40 (by decide) ?_
          refine lv_iload hx hb dL_types_42 (lv_at hl 5 rfl) ?_
          refine x_mulN hx hb dL_types_44 ?_
          refine lv_lshr hx hb dL_types_45 rfl ?_
          refine lv_ldc2 (v := 255) hx hb C.2.2.2.1 (C.2.2.2.2.1 _ tb799) dL_types_46 ?_
          refine lv_land hx hb dL_types_49 ?_
          refine x_topl (y := lN (n2 / 256 ^ k % 256)) (wb_b8 h263 (by omega)) ?_
          refine lv_lconst (v := 0) hx hb dL_types_50 (by decide) ?_
          refine x_lcmp hx hb dL_types_51 (fun r8 hr8 => ?_)
          refine lv_if_eq (tgt := 58) hx hb dL_types_52 (by decide) (fun c52 => ?_) (fun c52 => ?_)
          · refine lv_iinc (v := nI (k + 1)) (lv' := [(7, .int (nI (k + 1))), (0, .ref (ad 0)), (1, .long (lN n1)), (3, .long (lN n2)), (5, .int (nI np)), (6, .int (nI m9))]) hx hb dL_types_58 hl (k := 5) rfl (nI_add _ _) (by decide) rfl (fun ls hl => ?_)
            refine lv_goto (tgt := 13) hx hb dL_types_61 (by decide) ?_
            exact ih13 (k + 1) (m9) (by rw [bcn, bcn, if_pos ((lN_eq0 (Nat.lt_of_lt_of_le (Nat.mod_lt _ (by decide)) (by decide))).mp (lg_cmp_0.mp (hr7 ▸ c33))), if_pos ((lN_eq0 (Nat.lt_of_lt_of_le (Nat.mod_lt _ (by decide)) (by decide))).mp (lg_cmp_0.mp (hr8 ▸ c52)))]; omega) (by omega) (by omega) H locs ls h (lv_sub hl [1, 2, 3, 4, 5, 0] rfl)
          · refine lv_iinc (v := nI (m9 + 1)) (lv' := [(6, .int (nI (m9 + 1))), (0, .ref (ad 0)), (1, .long (lN n1)), (3, .long (lN n2)), (5, .int (nI np)), (7, .int (nI k))]) hx hb dL_types_55 hl (k := 4) rfl (nI_add _ _) (by decide) rfl (fun ls hl => ?_)
            refine lv_iinc (v := nI (k + 1)) (lv' := [(7, .int (nI (k + 1))), (6, .int (nI (m9 + 1))), (0, .ref (ad 0)), (1, .long (lN n1)), (3, .long (lN n2)), (5, .int (nI np))]) hx hb dL_types_58 hl (k := 5) rfl (nI_add _ _) (by decide) rfl (fun ls hl => ?_)
            refine lv_goto (tgt := 13) hx hb dL_types_61 (by decide) ?_
            exact ih13 (k + 1) (m9 + 1) (by rw [bcn, bcn, if_pos ((lN_eq0 (Nat.lt_of_lt_of_le (Nat.mod_lt _ (by decide)) (by decide))).mp (lg_cmp_0.mp (hr7 ▸ c33))), if_neg (fun q9 => c52 (by rw [hr8, q9]; decide))]; omega) (by omega) (by omega) H locs ls h (lv_sub hl [2, 3, 4, 5, 1, 0] rfl)
        · refine lv_iinc (v := nI (m9 + 1)) (lv' := [(6, .int (nI (m9 + 1))), (0, .ref (ad 0)), (1, .long (lN n1)), (3, .long (lN n2)), (5, .int (nI np)), (7, .int (nI k))]) hx hb dL_types_36 hl (k := 4) rfl (nI_add _ _) (by decide) rfl (fun ls hl => ?_)
          refine lv_lload_n hx hb dL_types_39 rfl (lv_at hl 3 rfl) ?_
          refine lv_bipush (v := nI 8) hx hb dL_types_40 (by decide) ?_
          refine lv_iload hx hb dL_types_42 (lv_at hl 5 rfl) ?_
          refine x_mulN hx hb dL_types_44 ?_
          refine lv_lshr hx hb dL_types_45 rfl ?_
          refine lv_ldc2 (v := 255) hx hb C.2.2.2.1 (C.2.2.2.2.1 _ tb799) dL_types_46 ?_
          refine lv_land hx hb dL_types_49 ?_
          refine x_topl (y := lN (n2 / 256 ^ k % 256)) (wb_b8 h263 (by omega)) ?_
          refine lv_lconst (v := 0) hx hb dL_types_50 (by decide) ?_
          refine x_lcmp hx hb dL_types_51 (fun r9 hr9 => ?_)
          refine lv_if_eq (tgt := 58) hx hb dL_types_52 (by decide) (fun c52 => ?_) (fun c52 => ?_)
          · refine lv_iinc (v := nI (k + 1)) (lv' := [(7, .int (nI (k + 1))), (6, .int (nI (m9 + 1))), (0, .ref (ad 0)), (1, .long (lN n1)), (3, .long (lN n2)), (5, .int (nI np))]) hx hb dL_types_58 hl (k := 5) rfl (nI_add _ _) (by decide) rfl (fun ls hl => ?_)
            refine lv_goto (tgt := 13) hx hb dL_types_61 (by decide) ?_
            exact ih13 (k + 1) (m9 + 1) (by rw [bcn, bcn, if_neg (fun q9 => c33 (by rw [hr7, q9]; decide)), if_pos ((lN_eq0 (Nat.lt_of_lt_of_le (Nat.mod_lt _ (by decide)) (by decide))).mp (lg_cmp_0.mp (hr9 ▸ c52)))]; omega) (by omega) (by omega) H locs ls h (lv_sub hl [2, 3, 4, 5, 1, 0] rfl)
          · refine lv_iinc (v := nI ((m9 + 1) + 1)) (lv' := [(6, .int (nI ((m9 + 1) + 1))), (0, .ref (ad 0)), (1, .long (lN n1)), (3, .long (lN n2)), (5, .int (nI np)), (7, .int (nI k))]) hx hb dL_types_55 hl (k := 0) rfl (nI_add _ _) (by decide) rfl (fun ls hl => ?_)
            refine lv_iinc (v := nI (k + 1)) (lv' := [(7, .int (nI (k + 1))), (6, .int (nI ((m9 + 1) + 1))), (0, .ref (ad 0)), (1, .long (lN n1)), (3, .long (lN n2)), (5, .int (nI np))]) hx hb dL_types_58 hl (k := 5) rfl (nI_add _ _) (by decide) rfl (fun ls hl => ?_)
            refine lv_goto (tgt := 13) hx hb dL_types_61 (by decide) ?_
            exact ih13 (k + 1) (m9 + 1 + 1) (by rw [bcn, bcn, if_neg (fun q9 => c33 (by rw [hr7, q9]; decide)), if_neg (fun q9 => c52 (by rw [hr9, q9]; decide))]; omega) (by omega) (by omega) H locs ls h (lv_sub hl [2, 3, 4, 5, 1, 0] rfl)
  exact L13 9 0 0 rfl (by omega) (by omega) H locs ls h (lv_sub hl [3, 4, 5, 2, 1, 0] rfl)

set_option maxHeartbeats 4000000 in
set_option maxRecDepth 100000 in
theorem c_L_sign (l : Launch) (D : va_G) (cy : Nat → ClassId) (ad : Nat → Nat) (Ls : List Nat) (st : XS) (hl0 : l.stackTraces = false) {nB : Nat} {ln : Nat → Nat} {fz b : Nat} {T : List Int32} (hW : WOK Ls st nB ln fz b T) (q : Nat) (hq9 : q < 100000) (c9 : Nat) (hTq : T.getD q (nI 32) = nI c9) : xAi l yL_sign cL_sign 4 (some .int) 15 4 24 D cy ad Ls st [.ref (ad 0), .int (nI b), .int (nI q), .int (nI c9)] (fun r u => r = nI (q + 1) ∧ WK st u) := by
  intro sz
  refine x_of sz (by decide +kernel) (Nat.le_of_ble_eq_true rfl) ?_
  intro p e s m args below meth c ls hx hb hr hlocks C hsz h hl
  have hl : lv_has ls 4 [(0, .ref (ad 0)), (1, .int (nI b)), (2, .int (nI q)), (3, .int (nI c9))] := hl
  have hL0 := hW.1
  have hbB : b < nB := hW.2.2.2.2.2.2.2.2.2.1
  have hB7 : nB ≤ 7 := hW.2.1
  obtain ⟨H, eH⟩ : ∃ z, z = s.heap := ⟨_, rfl⟩
  obtain ⟨locs, eL⟩ : ∃ z : List Loc, z = [] := ⟨_, rfl⟩
  rw [← eH, ← eL] at h
  rw [← eH, ← eL]
  clear eH eL
  refine lv_iload_n hx hb dL_sign_0 rfl (lv_at hl 2 rfl) ?_
  refine x_if_lt_f hx hb dL_sign_1 (nI_pos (by omega)) ?_
  refine lv_aload_n hx hb dL_sign_4 rfl (lv_at hl 0 rfl) ?_
  refine lv_iload_n hx hb dL_sign_5 rfl (lv_at hl 1 rfl) ?_
  refine lv_iconst (v := nI 0) hx hb dL_sign_6 (by decide) ?_
  refine lv_iload_n hx hb dL_sign_7 rfl (lv_at hl 2 rfl) ?_
  refine cx_L_28 C h (hL0 0 rfl) rfl (c_wr l D cy ad hl0 (WOK_K hW (WK_rf st)) (nI (q))) (x_roomX (by omega)) ⟨by show _ ≤ 4; omega, by show _ ≤ 24; omega⟩ hl.1 (Nat.le_of_ble_eq_true rfl) dL_sign_8 (x_noX (kWr_0 (by omega) hbB (by omega))) (fun r2 u1 H locs hp h => ?_)
  obtain ⟨er, hu⟩ := wr_post (WOK_K hW (WK_rf st)) (by omega) hp; clear hp; have hu1 := WK_tr (WK_rf st) hu; clear hu; refine x_topi er ?_; clear er r2
  refine lv_iload_n hx hb dL_sign_11 rfl (lv_at hl 3 rfl) ?_
  refine x_icmp_eq_t (tgt := 19) hx hb dL_sign_12 (by decide) hTq ?_
  refine lv_iload_n hx hb dL_sign_19 rfl (lv_at hl 2 rfl) ?_
  refine lv_iconst (v := nI 1) hx hb dL_sign_20 (by decide) ?_
  refine x_addN hx hb dL_sign_21 ?_
  refine W.widen (k := 4) (n := 24) (by omega) (by omega) ?_
  exact x_iret C hr hlocks h ⟨rfl, hu1⟩ dL_sign_22

set_option maxHeartbeats 4000000 in
set_option maxRecDepth 100000 in
theorem c_L_number (l : Launch) (D : va_G) (cy : Nat → ClassId) (ad : Nat → Nat) (Ls : List Nat) (st : XS) (hl0 : l.stackTraces = false) {nB : Nat} {ln : Nat → Nat} {fz b : Nat} {T : List Int32} (hW : WOK Ls st nB ln fz b T) (q : Nat) (hq9 : q < 100000) (w9 m9 : Nat) (hw9 : w9 ≤ 9) (hm9 : m9 < 10 ^ 9) (hT9 : ∀ i, i < (numT m9 w9).length → T.getD (q + i) (nI 32) = (numT m9 w9).getD i (nI 32)) : xAi l yL_number cL_number 10 (some .int) 15 80 480 D cy ad Ls st [.ref (ad 0), .int (nI b), .int (nI q), .int (nI w9), .int (nI m9)] (fun r u => r = nI (q + (numT m9 w9).length) ∧ WK st u) := by
  intro sz
  refine x_of sz (by decide +kernel) (Nat.le_of_ble_eq_true rfl) ?_
  intro p e s m args below meth c ls hx hb hr hlocks C hsz h hl
  have hl : lv_has ls 10 [(0, .ref (ad 0)), (1, .int (nI b)), (2, .int (nI q)), (3, .int (nI w9)), (4, .int (nI m9))] := hl
  have hL0 := hW.1
  have hbB : b < nB := hW.2.2.2.2.2.2.2.2.2.1
  have hB7 : nB ≤ 7 := hW.2.1
  obtain ⟨H, eH⟩ : ∃ z, z = s.heap := ⟨_, rfl⟩
  obtain ⟨locs, eL⟩ : ∃ z : List Loc, z = [] := ⟨_, rfl⟩
  rw [← eH, ← eL] at h
  rw [← eH, ← eL]
  clear eH eL
  refine lv_iload_n hx hb dL_number_0 rfl (lv_at hl 2 rfl) ?_
  refine x_if_ge_t (tgt := 6) hx hb dL_number_1 (by decide) (nI_pos' (by omega)) ?_
  refine lv_iload hx hb dL_number_6 (lv_at hl 4 rfl) ?_
  refine lv_istore (lv' := [(5, .int (nI m9)), (0, .ref (ad 0)), (1, .int (nI b)), (2, .int (nI q)), (3, .int (nI w9)), (4, .int (nI m9))]) hx hb dL_number_8 hl (by decide) rfl (fun ls hl => ?_)
  refine lv_iconst (v := nI 1) hx hb dL_number_10 (by decide) ?_
  refine lv_istore (lv' := [(6, .int (nI 1)), (5, .int (nI m9)), (0, .ref (ad 0)), (1, .int (nI b)), (2, .int (nI q)), (3, .int (nI w9)), (4, .int (nI m9))]) hx hb dL_number_11 hl (by decide) rfl (fun ls hl => ?_)
  refine lv_iconst (v := nI 1) hx hb dL_number_13 (by decide) ?_
  refine lv_istore (lv' := [(7, .int (nI 1)), (6, .int (nI 1)), (5, .int (nI m9)), (0, .ref (ad 0)), (1, .int (nI b)), (2, .int (nI q)), (3, .int (nI w9)), (4, .int (nI m9))]) hx hb dL_number_14 hl (by decide) rfl (fun ls hl => ?_)
  have L16 : ∀ (N16 : Nat) (t : Nat) (hds : dsz 9 m9 = t + dsz (9 - t) (m9 / 10 ^ t)) (ht8 : t ≤ 8) (hN : 9 - t < N16) (H : Heap) (locs : List Loc) (ls : Array Slot), xH D cy ad Ls (XA ad Ls sz) s st H locs → lv_has ls 10 [(0, .ref (ad 0)), (1, .int (nI b)), (2, .int (nI q)), (3, .int (nI w9)), (5, .int (nI m9)), (6, .int (nI (t + 1))), (7, .int (nI (10 ^ t)))] → W p l e (xRX 15 80 480) s m args below meth c H locs 0 0 (MQ below (va_Qi (fun r u => r = nI (q + (numT m9 w9).length) ∧ WK st u) (fun u => xPost D cy ad Ls (XA ad Ls sz) u) (XA ad Ls sz)) args s 80 480 (XA ad Ls sz)) (F0 m 16 ls []) := by
    intro N16
    induction N16 with
    | zero => intro t hds ht8 hN; omega
    | succ N16 ih16 =>
      intro t hds ht8 hN H locs ls h hl
      refine lv_iload hx hb dL_number_16 (lv_at hl 4 rfl) ?_
      refine lv_iload hx hb dL_number_18 (lv_at hl 6 rfl) ?_
      refine lv_idiv hx hb dL_number_20 (nI_ne0 (Nat.pow_pos (by decide)) (pow_lt9 ht8)) ?_
      have hmt := Nat.div_le_self m9 (10 ^ t)
      rw [pk_div (by omega) (Nat.pow_pos (by decide)) (pow_lt9 ht8)]
      refine lv_bipush (v := nI 10) hx hb dL_number_21 (by decide) ?_
      refine x_icmpN_lt (tgt := 39) hx hb dL_number_23 (by decide) (by omega) (by omega) (fun c23 => ?_) (fun c23 => ?_)
      · have hdg : dsz 9 m9 = t + 1 := by rw [hds, dsz_lt10 (by omega)]
        have hd9 := dsz_le9 hm9
        refine lv_iload_n hx hb dL_number_39 rfl (lv_at hl 2 rfl) ?_
        refine lv_istore (lv' := [(8, .int (nI q)), (0, .ref (ad 0)), (1, .int (nI b)), (2, .int (nI q)), (3, .int (nI w9)), (5, .int (nI m9)), (6, .int (nI (t + 1))), (7, .int (nI (10 ^ t)))]) hx hb dL_number_40 hl (by decide) rfl (fun ls hl => ?_)
        refine lv_iload hx hb dL_number_42 (lv_at hl 6 rfl) ?_
        refine lv_istore (lv' := [(9, .int (nI (t + 1))), (8, .int (nI q)), (0, .ref (ad 0)), (1, .int (nI b)), (2, .int (nI q)), (3, .int (nI w9)), (5, .int (nI m9)), (6, .int (nI (t + 1))), (7, .int (nI (10 ^ t)))]) hx hb dL_number_44 hl (by decide) rfl (fun ls hl => ?_)
        have L46 : ∀ (N46 : Nat) (v : XS) (k : Nat) (hv : WK st v) (hk1 : t + 1 ≤ k) (hk2 : k ≤ max w9 (t + 1)) (hN : w9 + 1 - k < N46) (H : Heap) (locs : List Loc) (ls : Array Slot), xH D cy ad Ls (XA ad Ls sz) s v H locs → lv_has ls 10 [(0, .ref (ad 0)), (1, .int (nI b)), (3, .int (nI w9)), (5, .int (nI m9)), (7, .int (nI (10 ^ t))), (8, .int (nI (q + (k - (t + 1))))), (9, .int (nI k))] → W p l e (xRX 15 80 480) s m args below meth c H locs (4 * (k - (t + 1))) (24 * (k - (t + 1))) (MQ below (va_Qi (fun r u => r = nI (q + (numT m9 w9).length) ∧ WK st u) (fun u => xPost D cy ad Ls (XA ad Ls sz) u) (XA ad Ls sz)) args s 80 480 (XA ad Ls sz)) (F0 m 46 ls []) := by
          intro N46
          induction N46 with
          | zero => intro v k hv hk1 hk2 hN; omega
          | succ N46 ih46 =>
            intro v k hv hk1 hk2 hN H locs ls h hl
            refine lv_iload hx hb dL_number_46 (lv_at hl 6 rfl) ?_
            refine lv_iload_n hx hb dL_number_48 rfl (lv_at hl 2 rfl) ?_
            refine x_icmpN_ge (tgt := 76) hx hb dL_number_49 (by decide) (by omega) (by omega) (fun c49 => ?_) (fun c49 => ?_)
            · refine lv_iload hx hb dL_number_76 (lv_at hl 4 rfl) ?_
              refine lv_istore (lv' := [(9, .int (nI (10 ^ t))), (0, .ref (ad 0)), (1, .int (nI b)), (3, .int (nI w9)), (5, .int (nI m9)), (7, .int (nI (10 ^ t))), (8, .int (nI (q + (k - (t + 1)))))]) hx hb dL_number_78 hl (by decide) rfl (fun ls hl => ?_)
              have L80 : ∀ (N80 : Nat) (v2 : XS) (cd : Nat) (hv2 : WK st v2) (hc1 : cd ≤ t + 1) (hN : cd < N80) (H : Heap) (locs : List Loc) (ls : Array Slot), xH D cy ad Ls (XA ad Ls sz) s v2 H locs → lv_has ls 10 [(0, .ref (ad 0)), (1, .int (nI b)), (5, .int (nI m9)), (8, .int (nI (q + (w9 - (t + 1)) + (t + 1 - cd)))), (9, .int (nI (pwr cd)))] → W p l e (xRX 15 80 480) s m args below meth c H locs (40 + 4 * (t + 1 - cd)) (240 + 24 * (t + 1 - cd)) (MQ below (va_Qi (fun r u => r = nI (q + (numT m9 w9).length) ∧ WK st u) (fun u => xPost D cy ad Ls (XA ad Ls sz) u) (XA ad Ls sz)) args s 80 480 (XA ad Ls sz)) (F0 m 80 ls []) := by
                intro N80
                induction N80 with
                | zero => intro v2 cd hv2 hc1 hN; omega
                | succ N80 ih80 =>
                  intro v2 cd hv2 hc1 hN H locs ls h hl
                  refine lv_iload hx hb dL_number_80 (lv_at hl 4 rfl) ?_
                  rcases cd with _ | cd
                  · refine x_ifN_le (tgt := 122) hx hb dL_number_82 (by decide) (by decide) (fun _ => ?_) (fun q9 => absurd q9 (by decide))
                    refine lv_iload hx hb dL_number_122 (lv_at hl 3 rfl) ?_
                    refine W.widen (k := 80) (n := 480) (by omega) (by omega) ?_
                    exact x_iret C hr hlocks h ⟨by rw [numT_len, hdg]; congr 1; omega, hv2⟩ dL_number_124
                  · have hp1 : 0 < 10 ^ cd := Nat.pow_pos (by decide)
                    have hpl := pow_lt9 (show cd ≤ 8 by omega)
                    refine x_ifN_le (tgt := 122) hx hb dL_number_82 (by decide) (pwr_lt (by omega)) (fun q9 => absurd q9 (by show ¬ 10 ^ cd = 0; omega)) (fun _ => ?_)
                    have hl : lv_has ls 10 [(0, .ref (ad 0)), (1, .int (nI b)), (5, .int (nI m9)), (8, .int (nI (q + (w9 - (t + 1)) + (t + 1 - (cd + 1))))), (9, .int (nI (10 ^ cd)))] := hl
                    refine lv_aload_n hx hb dL_number_85 rfl (lv_at hl 0 rfl) ?_
                    refine lv_iload_n hx hb dL_number_86 rfl (lv_at hl 1 rfl) ?_
                    refine lv_iconst (v := nI 0) hx hb dL_number_87 (by decide) ?_
                    refine lv_iload hx hb dL_number_88 (lv_at hl 3 rfl) ?_
                    refine cx_L_28 C h (hL0 0 rfl) rfl (c_wr l D cy ad hl0 (WOK_K hW hv2) (nI (q + (w9 - (t + 1)) + (t + 1 - (cd + 1))))) (x_roomX (by omega)) ⟨by show _ ≤ 80; omega, by show _ ≤ 480; omega⟩ hl.1 (Nat.le_of_ble_eq_true rfl) dL_number_90 (x_noX (kWr_0 (by omega) hbB (by omega))) (fun r2 u1 H locs hp h => ?_)
                    obtain ⟨er, hu⟩ := wr_post (WOK_K hW hv2) (by omega) hp; clear hp; have hu1 := WK_tr hv2 hu; clear hu; refine x_topi er ?_; clear er r2
                    refine lv_bipush (v := nI 48) hx hb dL_number_93 (by decide) ?_
                    refine lv_iload hx hb dL_number_95 (lv_at hl 2 rfl) ?_
                    refine lv_iload hx hb dL_number_97 (lv_at hl 4 rfl) ?_
                    refine lv_idiv hx hb dL_number_99 (nI_ne0 hp1 hpl) ?_
                    refine lv_bipush (v := nI 10) hx hb dL_number_100 (by decide) ?_
                    refine lv_irem hx hb dL_number_102 (by decide) ?_
                    refine lv_iadd hx hb dL_number_103 ?_
                    refine x_topi (y := nI (48 + m9 / 10 ^ cd % 10)) (by rw [pk_div (by omega) hp1 hpl, pk_rem (Nat.lt_of_le_of_lt (Nat.div_le_self _ _) (by omega)) (by decide) (by decide), nI_add]) ?_
                    refine x_icmp_eq_t (tgt := 109) hx hb dL_number_104 (by decide) (by have e9 := hT9 ((w9 - dsz 9 m9) + (dsz 9 m9 - (cd + 1))) (by rw [numT_len]; omega); rw [numT_dg (by omega), hdg, ← Nat.add_assoc] at e9; exact e9) ?_
                    refine lv_iinc (v := nI ((q + (w9 - (t + 1)) + (t + 1 - (cd + 1))) + 1)) (lv' := [(8, .int (nI ((q + (w9 - (t + 1)) + (t + 1 - (cd + 1))) + 1))), (0, .ref (ad 0)), (1, .int (nI b)), (5, .int (nI m9)), (9, .int (nI (10 ^ cd)))]) hx hb dL_number_109 hl (k := 3) rfl (nI_add _ _) (by decide) rfl (fun ls hl => ?_)
                    refine lv_iload hx hb dL_number_112 (lv_at hl 4 rfl) ?_
                    refine lv_bipush (v := nI 10) hx hb dL_number_114 (by decide) ?_
                    refine lv_idiv hx hb dL_number_116 (by decide) ?_
                    refine lv_istore (lv' := [(9, .int ((nI (10 ^ cd)) / (nI 10))), (8, .int (nI ((q + (w9 - (t + 1)) + (t + 1 - (cd + 1))) + 1))), (0, .ref (ad 0)), (1, .int (nI b)), (5, .int (nI m9))]) hx hb dL_number_117 hl (by decide) rfl (fun ls hl => ?_)
                    refine lv_goto (tgt := 80) hx hb dL_number_119 (by decide) ?_
                    refine W.widen (k := 40 + 4 * (t + 1 - cd)) (n := 240 + 24 * (t + 1 - cd)) (by omega) (by omega) ?_
                    rw [pk_div hpl (by decide) (by decide), show 10 ^ cd / 10 = pwr cd from pwr_10 cd, show q + (w9 - (t + 1)) + (t + 1 - (cd + 1)) + 1 = q + (w9 - (t + 1)) + (t + 1 - cd) by omega] at hl
                    exact ih80 u1 cd hu1 (by omega) (by omega) H locs ls h (lv_sub hl [2, 3, 4, 1, 0] rfl)
              have hkw : k - (t + 1) = w9 - (t + 1) := by omega
              rw [hkw] at hl
              refine W.widen (k := 40 + 4 * (t + 1 - (t + 1))) (n := 240 + 24 * (t + 1 - (t + 1))) (by omega) (by omega) ?_
              rw [show q + (w9 - (t + 1)) = q + (w9 - (t + 1)) + (t + 1 - (t + 1)) by omega] at hl
              exact L80 (t + 2) v (t + 1) hv (by omega) (by omega) H locs ls h (lv_sub hl [1, 2, 4, 6, 0] rfl)
            · refine lv_aload_n hx hb dL_number_52 rfl (lv_at hl 0 rfl) ?_
              refine lv_iload_n hx hb dL_number_53 rfl (lv_at hl 1 rfl) ?_
              refine lv_iconst (v := nI 0) hx hb dL_number_54 (by decide) ?_
              refine lv_iload hx hb dL_number_55 (lv_at hl 5 rfl) ?_
              refine cx_L_28 C h (hL0 0 rfl) rfl (c_wr l D cy ad hl0 (WOK_K hW hv) (nI (q + (k - (t + 1))))) (x_roomX (by omega)) ⟨by show _ ≤ 80; omega, by show _ ≤ 480; omega⟩ hl.1 (Nat.le_of_ble_eq_true rfl) dL_number_57 (x_noX (kWr_0 (by omega) hbB (by omega))) (fun r4 u3 H locs hp h => ?_)
              obtain ⟨er, hu⟩ := wr_post (WOK_K hW hv) (by omega) hp; clear hp; have hu3 := WK_tr hv hu; clear hu; refine x_topi er ?_; clear er r4
              refine lv_bipush (v := nI 32) hx hb dL_number_60 (by decide) ?_
              refine x_icmp_eq_t (tgt := 67) hx hb dL_number_62 (by decide) (by have e9 := hT9 (k - (t + 1)) (by rw [numT_len, hdg]; omega); rw [numT_sp (by rw [hdg]; omega)] at e9; exact e9) ?_
              refine lv_iinc (v := nI ((q + (k - (t + 1))) + 1)) (lv' := [(8, .int (nI ((q + (k - (t + 1))) + 1))), (0, .ref (ad 0)), (1, .int (nI b)), (3, .int (nI w9)), (5, .int (nI m9)), (7, .int (nI (10 ^ t))), (9, .int (nI k))]) hx hb dL_number_67 hl (k := 5) rfl (nI_add _ _) (by decide) rfl (fun ls hl => ?_)
              refine lv_iinc (v := nI (k + 1)) (lv' := [(9, .int (nI (k + 1))), (8, .int (nI ((q + (k - (t + 1))) + 1))), (0, .ref (ad 0)), (1, .int (nI b)), (3, .int (nI w9)), (5, .int (nI m9)), (7, .int (nI (10 ^ t)))]) hx hb dL_number_70 hl (k := 6) rfl (nI_add _ _) (by decide) rfl (fun ls hl => ?_)
              refine lv_goto (tgt := 46) hx hb dL_number_73 (by decide) ?_
              refine W.widen (k := 4 * (k + 1 - (t + 1))) (n := 24 * (k + 1 - (t + 1))) (by omega) (by omega) ?_
              rw [show q + (k - (t + 1)) + 1 = q + (k + 1 - (t + 1)) by omega] at hl
              exact ih46 u3 (k + 1) hu3 (by omega) (by omega) (by omega) H locs ls h (lv_sub hl [2, 3, 4, 5, 6, 1, 0] rfl)
        refine W.widen (k := 4 * (t + 1 - (t + 1))) (n := 24 * (t + 1 - (t + 1))) (by omega) (by omega) ?_
        have hl : lv_has ls 10 [(9, .int (nI (t + 1))), (8, .int (nI (q + (t + 1 - (t + 1))))), (0, .ref (ad 0)), (1, .int (nI b)), (2, .int (nI q)), (3, .int (nI w9)), (5, .int (nI m9)), (6, .int (nI (t + 1))), (7, .int (nI (10 ^ t)))] := by rw [show q + (t + 1 - (t + 1)) = q by omega]; exact hl
        exact L46 (w9 + 2) st (t + 1) (WK_rf st) (by omega) (by omega) (by omega) H locs ls h (lv_sub hl [2, 3, 5, 6, 8, 1, 0] rfl)
      · refine lv_iload hx hb dL_number_26 (lv_at hl 6 rfl) ?_
        refine lv_bipush (v := nI 10) hx hb dL_number_28 (by decide) ?_
        refine x_mulN hx hb dL_number_30 ?_
        refine x_topi (y := nI (10 ^ (t + 1))) (by rw [Nat.pow_succ]) ?_
        refine lv_istore (lv' := [(7, .int (nI (10 ^ (t + 1)))), (0, .ref (ad 0)), (1, .int (nI b)), (2, .int (nI q)), (3, .int (nI w9)), (5, .int (nI m9)), (6, .int (nI (t + 1)))]) hx hb dL_number_31 hl (by decide) rfl (fun ls hl => ?_)
        refine lv_iinc (v := nI ((t + 1) + 1)) (lv' := [(6, .int (nI ((t + 1) + 1))), (7, .int (nI (10 ^ (t + 1)))), (0, .ref (ad 0)), (1, .int (nI b)), (2, .int (nI q)), (3, .int (nI w9)), (5, .int (nI m9))]) hx hb dL_number_33 hl (k := 6) rfl (nI_add _ _) (by decide) rfl (fun ls hl => ?_)
        refine lv_goto (tgt := 16) hx hb dL_number_36 (by decide) ?_
        exact ih16 (t + 1) (dsz_step hds ht8 c23 hm9).1 (dsz_step hds ht8 c23 hm9).2 (by have := (dsz_step hds ht8 c23 hm9).2; omega) H locs ls h (lv_sub hl [2, 3, 4, 5, 6, 0, 1] rfl)
  exact L16 10 0 (by rw [Nat.pow_zero, Nat.div_one, Nat.zero_add]) (by omega) (by omega) H locs ls h (lv_sub hl [3, 4, 5, 6, 2, 1, 0] rfl)
