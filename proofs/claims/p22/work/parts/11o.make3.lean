set_option maxHeartbeats 4000000 in
set_option maxRecDepth 100000 in
theorem br_make3 {p : Program} {e : Env} {s : State} {m : MethodId} {below : List Frame} {meth : Method} {c : Code} (l : Launch) (hl0 : l.stackTraces = false) {D : va_G} {cy : Nat → ClassId} {b L : Nat} {xs : Nat → Int32} (C : xCx p m c code 31 s #[Value.ref b] RL D cy) (hE : xScr b L xs (lwA s) s s.heap) (hL9 : L ≤ 260) {t : Nat} (ht40 : t < 40) {ad : Nat → Nat} {Ls : List Nat} {st : XS} {H : Heap} {locs : List Loc} {ls : Array Slot} {bd at9 d n mB nn p9 : Nat} {ln : Nat → Nat} (h : xH D cy ad Ls (lwA s) s st H locs) (hI : PI Ls st bd d n mB nn ln) {i9 mn c9 pl w sm : Nat} (hi9 : mB = i9 + 1) (hln : ln i9 = mn) (h50 : 50 + i9 ∈ Ls) (hW : RW st i9 d mn c9 pl w) (hby : ∀ j, j < mn → ga st (50 + i9) j = oI (knoS st n (nI pl) (nI (kN st i9 j)) (nI d))) (hbh : ∀ k, k < 4 → bH st i9 k = rtO (ga st 31) (knoS st n (nI pl) (nI k) (nI d))) (hsm : sumA (bQ st i9) (bP st i9) mn = nI sm) (hs9 : sm ≤ mn * 989901) (hmn9 : mn ≤ 3) (hat : at9 ≤ 6 + 5 * t) (hd : d ≤ 4 * t) (hp2 : p9 < 2) (hl : lv_has ls 31 [(0, .ref b), (1, .ref (ad 0)), (2, .int (nI bd)), (3, .int (nI at9)), (6, .ref (ad 31)), (7, .ref (ad 32)), (8, .ref (ad 33)), (9, .ref (ad 34)), (10, .ref (ad 35)), (11, .ref (ad 36)), (12, .int (nI d)), (13, .int (nI n)), (14, .int (nI mB)), (15, .int (nI nn)), (16, .int (nI t)), (20, .int (nI p9)), (21, .int (nI mn)), (22, .int (nI c9)), (23, .ref (ad (50 + i9))), (24, .int (nI sm)), (25, .int (nI i9))]) (K : K78 p l e s m below meth c D cy b bd t) : W p l e room_1 s m #[Value.ref b] below meth c H locs (1201 + 4000 * t) (11000 + 40000 * t) (lw_Z below #[Value.ref b] s) (F0 m 910 ls []) := by
  have hx := C.1
  have hb := C.2.1
  have hI9 := hI
  obtain ⟨hA9, hPR, hPM, hPD, hPB, hPN, hPF⟩ := hI
  have hL := hA9.1
  have hR9 := hA9.2.1
  have hm7 : mB ≤ 7 := hA9.2.2.2.2.2.2.2.2
  have hn15 := hPR.1
  have hRD := RD_of hA9 hPD hPB
  have hB := hPB.2 i9 (by omega)
  have hWOK : WOK Ls st mB (lnX mB 0 ln) 23 i9 (txN st bd i9 mn) := by have q := WOK_of hI9 (show i9 < mB by omega); rw [hln] at q; exact q
  obtain ⟨w1, w2, w3, w4, w5, w6, w7, w8, w9, w10⟩ := hW
  have e35 : ga st 35 c9 = nI pl := (hPM.2.2.2.2 c9 w1).trans w4
  have e36 : ga st 36 pl = nI w := (hPM.2.2.1 pl w2).trans w5
  have f5 : gi st 5 (100 + 6 * i9) = nI c9 := by obtain ⟨x, _, x2, x3⟩ := hB.2.2.2.2.2.1; exact x2.trans (x3.symm.trans w6)
  have f6 : gi st 6 (100 + 6 * i9) = nI d := by obtain ⟨x, _, x2, x3⟩ := hB.2.2.2.2.2.2.1; exact x2.trans (x3.symm.trans w7)
  have f7 : gi st 7 (100 + 6 * i9) = nI pl := by obtain ⟨x, _, x2, x3⟩ := hB.2.2.2.2.2.2.2.1; exact x2.trans (x3.symm.trans w9)
  have f8 : gi st 8 (100 + 6 * i9) = nI w := by obtain ⟨x, _, x2, x3⟩ := hB.2.2.2.2.2.2.2.2.1; exact x2.trans (x3.symm.trans w10)
  have f11 : gi st 11 (100 + 6 * i9) = ga st 32 (7 * i9 + 5) := by obtain ⟨x, _, x2, x3⟩ := hB.2.2.2.2.2.2.2.2.2.1; exact x2.trans x3.symm
  have hTn := t_N hB
  have hSn := s_N hB
  rw [hln] at hSn
  have hmn3 : mn ≤ 3 := by have := hB.2.1; omega
  have hsm9 : sm = sN st i9 mn := (nI_eq (by omega) (by omega)).mp (hsm.symm.trans hSn.1)
  obtain ⟨hA1, hA2, hA3, hA4, hA5, hA6⟩ := txT_At i9 (lnsT (lnN st bd i9) mn) (sN st i9 mn) (tN st i9)
  rw [← hsm9] at hA4 hA5 hA6
  have hnum0 := numT_len9 (m := i9) (w := 0) (by omega) (by decide)
  have hnum9 := numT_len9 (m := sm + tN st i9) (w := 9) (by omega) (by decide)
  have hbd9 := hPF.2.1
  have hTe : txN st bd i9 mn = txT i9 (lnsT (lnN st bd i9) mn) sm (tN st i9) := by unfold txN; rw [← hsm9]
  rw [hsm9] at hA4 hA5 hA6
  rw [← show txN st bd i9 mn = txT i9 (lnsT (lnN st bd i9) mn) (sN st i9 mn) (tN st i9) from rfl] at hA1 hA2 hA3 hA4 hA5 hA6
  rw [← hsm9] at hA4 hA5 hA6
  clear hTe
  refine lv_aload_n hx hb dL_law_910 rfl (lv_at hl 1 rfl) ?_
  refine lv_iload hx hb dL_law_911 (lv_at hl 20 rfl) ?_
  refine lv_iconst (v := nI 0) hx hb dL_law_913 (by decide) ?_
  refine cx_L_86 C h (hL 0 rfl) rfl (r_invoice l D cy ad hl0 hRD (nI i9) (nI 0)) (by decide) ⟨by show _ ≤ 754712; omega, by show _ ≤ 6837489; omega⟩ hl.1 (Nat.le_of_ble_eq_true rfl) dL_law_914 (x_noX (kInv_0 (by omega) (by omega) (by decide))) (fun r2 u1 H locs hp h => ?_)
  obtain ⟨er, eu⟩ := inv_post (by omega) (by omega) hp; clear hp; rw [eu] at h; clear eu u1; rw [inv0] at er; refine x_topi (y := nI c9) (er.trans (f5)) ?_; clear er r2
  refine lv_iload hx hb dL_law_917 (lv_at hl 17 rfl) ?_
  refine x_icmp_ne_f (tgt := 1013) hx hb dL_law_919 (by decide) rfl ?_
  refine lv_aload_n hx hb dL_law_922 rfl (lv_at hl 1 rfl) ?_
  refine lv_iload hx hb dL_law_923 (lv_at hl 20 rfl) ?_
  refine lv_iconst (v := nI 1) hx hb dL_law_925 (by decide) ?_
  refine cx_L_86 C h (hL 0 rfl) rfl (r_invoice l D cy ad hl0 hRD (nI i9) (nI 1)) (by decide) ⟨by show _ ≤ 754712; omega, by show _ ≤ 6837489; omega⟩ hl.1 (Nat.le_of_ble_eq_true rfl) dL_law_926 (x_noX (kInv_0 (by omega) (by omega) (by decide))) (fun r4 u3 H locs hp h => ?_)
  obtain ⟨er, eu⟩ := inv_post (by omega) (by omega) hp; clear hp; rw [eu] at h; clear eu u3; rw [inv1] at er; refine x_topi (y := nI d) (er.trans (f6)) ?_; clear er r4
  refine lv_iload hx hb dL_law_929 (lv_at hl 10 rfl) ?_
  refine x_icmp_ne_f (tgt := 1013) hx hb dL_law_931 (by decide) rfl ?_
  refine lv_aload_n hx hb dL_law_934 rfl (lv_at hl 1 rfl) ?_
  refine lv_iload hx hb dL_law_935 (lv_at hl 20 rfl) ?_
  refine lv_iconst (v := nI 2) hx hb dL_law_937 (by decide) ?_
  refine cx_L_86 C h (hL 0 rfl) rfl (r_invoice l D cy ad hl0 hRD (nI i9) (nI 2)) (by decide) ⟨by show _ ≤ 754712; omega, by show _ ≤ 6837489; omega⟩ hl.1 (Nat.le_of_ble_eq_true rfl) dL_law_938 (x_noX (kInv_0 (by omega) (by omega) (by decide))) (fun r6 u5 H locs hp h => ?_)
  obtain ⟨er, eu⟩ := inv_post (by omega) (by omega) hp; clear hp; rw [eu] at h; clear eu u5; rw [inv2] at er; refine x_topi (y := nI mn) (er.trans (by rw [lnX_lt (by omega), hln])) ?_; clear er r6
  refine lv_iload hx hb dL_law_941 (lv_at hl 16 rfl) ?_
  refine x_icmp_ne_f (tgt := 1013) hx hb dL_law_943 (by decide) rfl ?_
  refine lv_aload_n hx hb dL_law_946 rfl (lv_at hl 1 rfl) ?_
  refine lv_iload hx hb dL_law_947 (lv_at hl 20 rfl) ?_
  refine lv_iconst (v := nI 3) hx hb dL_law_949 (by decide) ?_
  refine cx_L_86 C h (hL 0 rfl) rfl (r_invoice l D cy ad hl0 hRD (nI i9) (nI 3)) (by decide) ⟨by show _ ≤ 754712; omega, by show _ ≤ 6837489; omega⟩ hl.1 (Nat.le_of_ble_eq_true rfl) dL_law_950 (x_noX (kInv_0 (by omega) (by omega) (by decide))) (fun r8 u7 H locs hp h => ?_)
  obtain ⟨er, eu⟩ := inv_post (by omega) (by omega) hp; clear hp; rw [eu] at h; clear eu u7; rw [inv3] at er; refine x_topi (y := nI sm) (er.trans (by rw [lnX_lt (by omega), hln]; exact hsm)) ?_; clear er r8
  refine lv_iload hx hb dL_law_953 (lv_at hl 19 rfl) ?_
  refine x_icmp_ne_f (tgt := 1013) hx hb dL_law_955 (by decide) rfl ?_
  refine lv_aload_n hx hb dL_law_958 rfl (lv_at hl 1 rfl) ?_
  refine lv_iload hx hb dL_law_959 (lv_at hl 20 rfl) ?_
  refine lv_iconst (v := nI 4) hx hb dL_law_961 (by decide) ?_
  refine cx_L_86 C h (hL 0 rfl) rfl (r_invoice l D cy ad hl0 hRD (nI i9) (nI 4)) (by decide) ⟨by show _ ≤ 754712; omega, by show _ ≤ 6837489; omega⟩ hl.1 (Nat.le_of_ble_eq_true rfl) dL_law_962 (x_noX (kInv_0 (by omega) (by omega) (by decide))) (fun r10 u9 H locs hp h => ?_)
  obtain ⟨er, eu⟩ := inv_post (by omega) (by omega) hp; clear hp; rw [eu] at h; clear eu u9; rw [inv4] at er; refine x_topi (y := ga st 32 (7 * i9 + 5)) (er.trans (f11)) ?_; clear er r10
  refine lv_aload hx hb dL_law_965 (lv_at hl 5 rfl) ?_
  refine lv_bipush (v := nI 7) hx hb dL_law_967 (by decide) ?_
  refine lv_iload hx hb dL_law_969 (lv_at hl 20 rfl) ?_
  refine x_mulN hx hb dL_law_971 ?_
  refine lv_iconst (v := nI 5) hx hb dL_law_972 (by decide) ?_
  refine x_addN hx hb dL_law_973 ?_
  refine x_ald C h (hR9 32 (by decide) (by decide)) (n := 64) rfl ((7 * i9) + 5) (by omega) (by decide) rfl dL_law_974 ?_
  refine x_icmp_ne_f (tgt := 1013) hx hb dL_law_975 (by decide) rfl ?_
  refine lv_aload_n hx hb dL_law_978 rfl (lv_at hl 1 rfl) ?_
  refine lv_iload hx hb dL_law_979 (lv_at hl 20 rfl) ?_
  refine lv_bipush (v := nI 6) hx hb dL_law_981 (by decide) ?_
  refine cx_L_86 C h (hL 0 rfl) rfl (r_invoice l D cy ad hl0 hRD (nI i9) (nI 6)) (by decide) ⟨by show _ ≤ 754712; omega, by show _ ≤ 6837489; omega⟩ hl.1 (Nat.le_of_ble_eq_true rfl) dL_law_983 (x_noX (kInv_0 (by omega) (by omega) (by decide))) (fun r12 u11 H locs hp h => ?_)
  obtain ⟨er, eu⟩ := inv_post (by omega) (by omega) hp; clear hp; rw [eu] at h; clear eu u11; rw [inv6] at er; refine x_topi (y := nI pl) (er.trans (f7)) ?_; clear er r12
  refine lv_aload hx hb dL_law_986 (lv_at hl 8 rfl) ?_
  refine lv_iload hx hb dL_law_988 (lv_at hl 17 rfl) ?_
  refine x_ald C h (hR9 35 (by decide) (by decide)) (n := 16) rfl c9 (by omega) (by decide) rfl dL_law_990 ?_
  refine x_topi (y := nI pl) e35 ?_
  refine x_icmp_ne_f (tgt := 1013) hx hb dL_law_991 (by decide) rfl ?_
  refine lv_aload_n hx hb dL_law_994 rfl (lv_at hl 1 rfl) ?_
  refine lv_iload hx hb dL_law_995 (lv_at hl 20 rfl) ?_
  refine lv_bipush (v := nI 7) hx hb dL_law_997 (by decide) ?_
  refine cx_L_86 C h (hL 0 rfl) rfl (r_invoice l D cy ad hl0 hRD (nI i9) (nI 7)) (by decide) ⟨by show _ ≤ 754712; omega, by show _ ≤ 6837489; omega⟩ hl.1 (Nat.le_of_ble_eq_true rfl) dL_law_999 (x_noX (kInv_0 (by omega) (by omega) (by decide))) (fun r14 u13 H locs hp h => ?_)
  obtain ⟨er, eu⟩ := inv_post (by omega) (by omega) hp; clear hp; rw [eu] at h; clear eu u13; rw [inv7] at er; refine x_topi (y := nI w) (er.trans (f8)) ?_; clear er r14
  refine lv_aload hx hb dL_law_1002 (lv_at hl 9 rfl) ?_
  refine lv_aload hx hb dL_law_1004 (lv_at hl 8 rfl) ?_
  refine lv_iload hx hb dL_law_1006 (lv_at hl 17 rfl) ?_
  refine x_ald C h (hR9 35 (by decide) (by decide)) (n := 16) rfl c9 (by omega) (by decide) rfl dL_law_1008 ?_
  refine x_topi (y := nI pl) e35 ?_
  refine x_ald C h (hR9 36 (by decide) (by decide)) (n := 4) rfl pl (by omega) (by decide) rfl dL_law_1009 ?_
  refine x_topi (y := nI w) e36 ?_
  refine x_icmp_eq_t (tgt := 1015) hx hb dL_law_1010 (by decide) rfl ?_
  refine lv_aload_n hx hb dL_law_1015 rfl (lv_at hl 1 rfl) ?_
  refine lv_iload hx hb dL_law_1016 (lv_at hl 20 rfl) ?_
  refine lv_aload_n hx hb dL_law_1018 rfl (lv_at hl 1 rfl) ?_
  refine lv_iload hx hb dL_law_1019 (lv_at hl 20 rfl) ?_
  refine lv_iconst (v := nI 0) hx hb dL_law_1021 (by decide) ?_
  refine lv_iconst (v := nI 0) hx hb dL_law_1022 (by decide) ?_
  refine lv_iload hx hb dL_law_1023 (lv_at hl 20 rfl) ?_
  refine ca_L_89 C h (c_L_number l D cy ad Ls st hl0 (WOK_K hWOK (WK_rf st)) (0) (by omega) (0) (i9) (by omega) (by omega) hA1) (by decide) ⟨by show _ ≤ 754712; omega, by show _ ≤ 6837489; omega⟩ hl.1 (Nat.le_of_ble_eq_true rfl) dL_law_1025 (fun r16 u15 H locs hp h => ?_)
  obtain ⟨er, hu⟩ := hp; have hu15 := WK_tr (WK_rf st) hu; clear hu; refine x_topi er ?_; clear er r16
  refine lv_bipush (v := nI 58) hx hb dL_law_1028 (by decide) ?_
  refine ca_L_93 C h (c_L_sign l D cy ad Ls u15 hl0 (WOK_K hWOK hu15) ((0 + (numT (i9) (0)).length)) (by omega) 58 (by rw [Nat.zero_add]; exact hA2)) (by decide) ⟨by show _ ≤ 754712; omega, by show _ ≤ 6837489; omega⟩ hl.1 (Nat.le_of_ble_eq_true rfl) dL_law_1030 (fun r18 u17 H locs hp h => ?_)
  obtain ⟨er, hu⟩ := hp; have hu17 := WK_tr hu15 hu; clear hu; refine x_topi er ?_; clear er r18
  refine lv_istore (lv' := [(26, .int (nI ((0 + (numT (i9) (0)).length) + 1))), (0, .ref b), (1, .ref (ad 0)), (2, .int (nI bd)), (3, .int (nI at9)), (6, .ref (ad 31)), (7, .ref (ad 32)), (8, .ref (ad 33)), (9, .ref (ad 34)), (10, .ref (ad 35)), (11, .ref (ad 36)), (12, .int (nI d)), (13, .int (nI n)), (14, .int (nI mB)), (15, .int (nI nn)), (16, .int (nI t)), (20, .int (nI p9)), (21, .int (nI mn)), (22, .int (nI c9)), (23, .ref (ad (50 + i9))), (24, .int (nI sm)), (25, .int (nI i9))]) hx hb dL_law_1033 hl (by decide) rfl (fun ls hl => ?_)
  refine lv_iconst (v := nI 0) hx hb dL_law_1035 (by decide) ?_
  refine lv_istore (lv' := [(27, .int (nI 0)), (26, .int (nI ((0 + (numT (i9) (0)).length) + 1))), (0, .ref b), (1, .ref (ad 0)), (2, .int (nI bd)), (3, .int (nI at9)), (6, .ref (ad 31)), (7, .ref (ad 32)), (8, .ref (ad 33)), (9, .ref (ad 34)), (10, .ref (ad 35)), (11, .ref (ad 36)), (12, .int (nI d)), (13, .int (nI n)), (14, .int (nI mB)), (15, .int (nI nn)), (16, .int (nI t)), (20, .int (nI p9)), (21, .int (nI mn)), (22, .int (nI c9)), (23, .ref (ad (50 + i9))), (24, .int (nI sm)), (25, .int (nI i9))]) hx hb dL_law_1036 hl (by decide) rfl (fun ls hl => ?_)
  have L1038 : ∀ (N1038 : Nat) (v : XS) (k : Nat) (hv : WK st v) (hk : k ≤ mn) (hN : mn - k < N1038) (H : Heap) (locs : List Loc) (ls : Array Slot), xH D cy ad Ls (lwA s) s v H locs → lv_has ls 31 [(0, .ref b), (1, .ref (ad 0)), (2, .int (nI bd)), (3, .int (nI at9)), (6, .ref (ad 31)), (7, .ref (ad 32)), (8, .ref (ad 33)), (9, .ref (ad 34)), (10, .ref (ad 35)), (11, .ref (ad 36)), (12, .int (nI d)), (13, .int (nI n)), (14, .int (nI mB)), (15, .int (nI nn)), (16, .int (nI t)), (20, .int (nI p9)), (21, .int (nI mn)), (22, .int (nI c9)), (23, .ref (ad (50 + i9))), (24, .int (nI sm)), (25, .int (nI i9)), (26, .int (nI ((numT i9 0).length + 1 + (lnsT (lnN st bd i9) k).length))), (27, .int (nI k))] → W p l e room_1 s m #[Value.ref b] below meth c H locs (1401 + 4000 * t + 172 * k) (12000 + 40000 * t + 1032 * k) (lw_Z below #[Value.ref b] s) (F0 m 1038 ls []) := by
    intro N1038
    induction N1038 with
    | zero => intro v k hv hk hN; omega
    | succ N1038 ih1038 =>
      intro v k hv hk hN H locs ls h hl
      refine lv_iload hx hb dL_law_1038 (lv_at hl 22 rfl) ?_
      refine lv_iload hx hb dL_law_1040 (lv_at hl 16 rfl) ?_
      refine x_icmpN_ge (tgt := 1212) hx hb dL_law_1042 (by decide) (by omega) (by omega) (fun c1042 => ?_) (fun c1042 => ?_)
      · have hkm : k = mn := by omega
        rw [hkm] at hl
        have hlm := lnsT_len (f := (lnN st bd i9)) mn (fun j hj => by obtain ⟨j1, j2, j3, _⟩ := ln_N hB (show j < ln i9 by omega); exact lnT_len (by omega) (by omega) (by omega))
        refine lv_iload hx hb dL_law_1212 (lv_at hl 19 rfl) ?_
        refine lv_aload hx hb dL_law_1214 (lv_at hl 5 rfl) ?_
        refine lv_bipush (v := nI 7) hx hb dL_law_1216 (by decide) ?_
        refine lv_iload hx hb dL_law_1218 (lv_at hl 20 rfl) ?_
        refine x_mulN hx hb dL_law_1220 ?_
        refine lv_iconst (v := nI 5) hx hb dL_law_1221 (by decide) ?_
        refine x_addN hx hb dL_law_1222 ?_
        refine x_ald C h (hR9 32 (by decide) (by decide)) (n := 64) rfl ((7 * i9) + 5) (by omega) (by decide) rfl dL_law_1223 ?_
        refine x_topi (y := nI (tN st i9)) (by rw [hv.2.2.2.1 32 (by decide)]; exact f11.symm.trans hTn.1) ?_
        refine x_icmpN_ne (tgt := 1239) hx hb dL_law_1224 (by decide) (by omega) (by omega) (fun c1224 => ?_) (fun c1224 => ?_)
        · refine lv_aload_n hx hb dL_law_1239 rfl (lv_at hl 1 rfl) ?_
          refine lv_iload hx hb dL_law_1240 (lv_at hl 20 rfl) ?_
          refine lv_iload hx hb dL_law_1242 (lv_at hl 21 rfl) ?_
          refine lv_bipush (v := nI 9) hx hb dL_law_1244 (by decide) ?_
          refine lv_iload hx hb dL_law_1246 (lv_at hl 19 rfl) ?_
          refine lv_aload hx hb dL_law_1248 (lv_at hl 5 rfl) ?_
          refine lv_bipush (v := nI 7) hx hb dL_law_1250 (by decide) ?_
          refine lv_iload hx hb dL_law_1252 (lv_at hl 20 rfl) ?_
          refine x_mulN hx hb dL_law_1254 ?_
          refine lv_iconst (v := nI 5) hx hb dL_law_1255 (by decide) ?_
          refine x_addN hx hb dL_law_1256 ?_
          refine x_ald C h (hR9 32 (by decide) (by decide)) (n := 64) rfl ((7 * i9) + 5) (by omega) (by decide) rfl dL_law_1257 ?_
          refine x_topi (y := nI (tN st i9)) (by rw [hv.2.2.2.1 32 (by decide)]; exact f11.symm.trans hTn.1) ?_
          refine x_addN hx hb dL_law_1258 ?_
          refine ca_L_89 C h (c_L_number l D cy ad Ls v hl0 (WOK_K hWOK hv) (((numT i9 0).length + 1 + (lnsT (lnN st bd i9) mn).length)) (by omega) (9) ((sm + (tN st i9))) (by omega) (by omega) (by have e9 := hA5; rw [if_neg c1224, Nat.add_zero] at e9; exact e9)) (by decide) ⟨by show _ ≤ 754712; omega, by show _ ≤ 6837489; omega⟩ hl.1 (Nat.le_of_ble_eq_true rfl) dL_law_1259 (fun r20 u19 H locs hp h => ?_)
          obtain ⟨er, hu⟩ := hp; have hu19 := WK_tr hv hu; clear hu; refine x_topi er ?_; clear er r20
          refine lv_istore (lv' := [(26, .int (nI (((numT i9 0).length + 1 + (lnsT (lnN st bd i9) mn).length) + (numT ((sm + (tN st i9))) (9)).length))), (0, .ref b), (1, .ref (ad 0)), (2, .int (nI bd)), (3, .int (nI at9)), (6, .ref (ad 31)), (7, .ref (ad 32)), (8, .ref (ad 33)), (9, .ref (ad 34)), (10, .ref (ad 35)), (11, .ref (ad 36)), (12, .int (nI d)), (13, .int (nI n)), (14, .int (nI mB)), (15, .int (nI nn)), (16, .int (nI t)), (20, .int (nI p9)), (21, .int (nI mn)), (22, .int (nI c9)), (23, .ref (ad (50 + i9))), (24, .int (nI sm)), (25, .int (nI i9)), (27, .int (nI mn))]) hx hb dL_law_1262 hl (by decide) rfl (fun ls hl => ?_)
          have hend : (((numT i9 0).length + 1 + (lnsT (lnN st bd i9) mn).length) + (numT ((sm + (tN st i9))) (9)).length) = (txN st bd i9 mn).length := by have e9 := hA6; rw [if_neg c1224] at e9; omega
          rw [hend] at hl
          have hTl := hWOK.2.2.2.2.2.2.2.2.2.2.1
          refine lv_iload hx hb dL_law_1264 (lv_at hl 0 rfl) ?_
          refine x_if_lt_f hx hb dL_law_1266 (nI_pos (by omega)) ?_
          refine lv_aload_n hx hb dL_law_1269 rfl (lv_at hl 2 rfl) ?_
          refine lv_iload hx hb dL_law_1270 (lv_at hl 21 rfl) ?_
          refine lv_iconst (v := nI 0) hx hb dL_law_1272 (by decide) ?_
          refine cx_L_97 C h (hL 0 rfl) rfl (c_len l D cy ad hl0 (WOK_K hWOK hu19)) (by decide) ⟨by show _ ≤ 754712; omega, by show _ ≤ 6837489; omega⟩ hl.1 (Nat.le_of_ble_eq_true rfl) dL_law_1273 (x_noX (kLen_0 (by omega) (by omega))) (fun r22 u21 H locs hp h => ?_)
          obtain ⟨er, hu⟩ := len_post (WOK_K hWOK hu19) hp; clear hp; have hu21 := WK_tr hu19 hu; clear hu; refine x_topi er ?_; clear er r22
          refine lv_iload hx hb dL_law_1276 (lv_at hl 0 rfl) ?_
          refine x_icmp_ne_f (tgt := 1313) hx hb dL_law_1278 (by decide) rfl ?_
          refine lv_aload_n hx hb dL_law_1281 rfl (lv_at hl 2 rfl) ?_
          refine lv_iload hx hb dL_law_1282 (lv_at hl 21 rfl) ?_
          refine lv_iconst (v := nI 0) hx hb dL_law_1284 (by decide) ?_
          refine lv_iload hx hb dL_law_1285 (lv_at hl 0 rfl) ?_
          refine cx_L_28 C h (hL 0 rfl) rfl (c_wr l D cy ad hl0 (WOK_K hWOK hu21) (nI ((txN st bd i9 mn).length))) (by decide) ⟨by show _ ≤ 754712; omega, by show _ ≤ 6837489; omega⟩ hl.1 (Nat.le_of_ble_eq_true rfl) dL_law_1287 (x_noX (kWr_0 (by omega) (by omega) (by omega))) (fun r24 u23 H locs hp h => ?_)
          obtain ⟨er, hu⟩ := wr_post (WOK_K hWOK hu21) (by omega) hp; clear hp; have hu23 := WK_tr hu21 hu; clear hu; refine x_topi (y := nI 32) (er.trans (getD_end (by omega))) ?_; clear er r24
          refine lv_bipush (v := nI 32) hx hb dL_law_1290 (by decide) ?_
          refine x_icmp_ne_f (tgt := 1313) hx hb dL_law_1292 (by decide) rfl ?_
          refine lv_aload_n hx hb dL_law_1295 rfl (lv_at hl 2 rfl) ?_
          refine lv_iload hx hb dL_law_1296 (lv_at hl 21 rfl) ?_
          refine lv_iconst (v := nI 0) hx hb dL_law_1298 (by decide) ?_
          refine lv_iload hx hb dL_law_1299 (lv_at hl 0 rfl) ?_
          refine lv_sipush (v := nI 500) hx hb dL_law_1301 (by decide) ?_
          refine x_addN hx hb dL_law_1304 ?_
          refine cx_L_28 C h (hL 0 rfl) rfl (c_wr l D cy ad hl0 (WOK_K hWOK hu23) (nI ((txN st bd i9 mn).length + 500))) (by decide) ⟨by show _ ≤ 754712; omega, by show _ ≤ 6837489; omega⟩ hl.1 (Nat.le_of_ble_eq_true rfl) dL_law_1305 (x_noX (kWr_0 (by omega) (by omega) (by omega))) (fun r26 u25 H locs hp h => ?_)
          obtain ⟨er, hu⟩ := wr_post (WOK_K hWOK hu23) (by omega) hp; clear hp; have hu25 := WK_tr hu23 hu; clear hu; refine x_topi (y := nI 32) (er.trans (getD_end (by omega))) ?_; clear er r26
          refine lv_bipush (v := nI 32) hx hb dL_law_1308 (by decide) ?_
          refine x_icmp_eq_t (tgt := 1315) hx hb dL_law_1310 (by decide) rfl ?_
          refine lv_goto (tgt := 1478) hx hb dL_law_1315 (by decide) ?_
          refine W.widen (k := 3000 + 4000 * t) (n := 40000 + 40000 * t) (by omega) (by omega) ?_
          exact K p9 ad Ls u25 H locs ls at9 d n mB nn ln hp2 (by omega) (by omega) h (PI_WK hI9 hu25) (lv_sub hl [16, 1, 2, 3, 4, 5, 6, 7, 8, 9, 10, 11, 12, 13, 14, 15] rfl)
        · refine lv_aload_n hx hb dL_law_1227 rfl (lv_at hl 1 rfl) ?_
          refine lv_iload hx hb dL_law_1228 (lv_at hl 20 rfl) ?_
          refine lv_iload hx hb dL_law_1230 (lv_at hl 21 rfl) ?_
          refine lv_bipush (v := nI 33) hx hb dL_law_1232 (by decide) ?_
          refine ca_L_93 C h (c_L_sign l D cy ad Ls v hl0 (WOK_K hWOK hv) (((numT i9 0).length + 1 + (lnsT (lnN st bd i9) mn).length)) (by omega) 33 (hA4 c1224)) (by decide) ⟨by show _ ≤ 754712; omega, by show _ ≤ 6837489; omega⟩ hl.1 (Nat.le_of_ble_eq_true rfl) dL_law_1234 (fun r28 u27 H locs hp h => ?_)
          obtain ⟨er, hu⟩ := hp; have hu27 := WK_tr hv hu; clear hu; refine x_topi er ?_; clear er r28
          refine lv_istore (lv' := [(26, .int (nI (((numT i9 0).length + 1 + (lnsT (lnN st bd i9) mn).length) + 1))), (0, .ref b), (1, .ref (ad 0)), (2, .int (nI bd)), (3, .int (nI at9)), (6, .ref (ad 31)), (7, .ref (ad 32)), (8, .ref (ad 33)), (9, .ref (ad 34)), (10, .ref (ad 35)), (11, .ref (ad 36)), (12, .int (nI d)), (13, .int (nI n)), (14, .int (nI mB)), (15, .int (nI nn)), (16, .int (nI t)), (20, .int (nI p9)), (21, .int (nI mn)), (22, .int (nI c9)), (23, .ref (ad (50 + i9))), (24, .int (nI sm)), (25, .int (nI i9)), (27, .int (nI mn))]) hx hb dL_law_1237 hl (by decide) rfl (fun ls hl => ?_)
          refine lv_aload_n hx hb dL_law_1239 rfl (lv_at hl 2 rfl) ?_
          refine lv_iload hx hb dL_law_1240 (lv_at hl 21 rfl) ?_
          refine lv_iload hx hb dL_law_1242 (lv_at hl 0 rfl) ?_
          refine lv_bipush (v := nI 9) hx hb dL_law_1244 (by decide) ?_
          refine lv_iload hx hb dL_law_1246 (lv_at hl 20 rfl) ?_
          refine lv_aload hx hb dL_law_1248 (lv_at hl 6 rfl) ?_
          refine lv_bipush (v := nI 7) hx hb dL_law_1250 (by decide) ?_
          refine lv_iload hx hb dL_law_1252 (lv_at hl 21 rfl) ?_
          refine x_mulN hx hb dL_law_1254 ?_
          refine lv_iconst (v := nI 5) hx hb dL_law_1255 (by decide) ?_
          refine x_addN hx hb dL_law_1256 ?_
          refine x_ald C h (hR9 32 (by decide) (by decide)) (n := 64) rfl ((7 * i9) + 5) (by omega) (by decide) rfl dL_law_1257 ?_
          refine x_topi (y := nI (tN st i9)) (by rw [hu27.2.2.2.1 32 (by decide)]; exact f11.symm.trans hTn.1) ?_
          refine x_addN hx hb dL_law_1258 ?_
          refine ca_L_89 C h (c_L_number l D cy ad Ls u27 hl0 (WOK_K hWOK hu27) ((((numT i9 0).length + 1 + (lnsT (lnN st bd i9) mn).length) + 1)) (by omega) (9) ((sm + (tN st i9))) (by omega) (by omega) (by have e9 := hA5; rw [if_pos c1224] at e9; exact e9)) (by decide) ⟨by show _ ≤ 754712; omega, by show _ ≤ 6837489; omega⟩ hl.1 (Nat.le_of_ble_eq_true rfl) dL_law_1259 (fun r30 u29 H locs hp h => ?_)
          obtain ⟨er, hu⟩ := hp; have hu29 := WK_tr hu27 hu; clear hu; refine x_topi er ?_; clear er r30
          refine lv_istore (lv' := [(26, .int (nI ((((numT i9 0).length + 1 + (lnsT (lnN st bd i9) mn).length) + 1) + (numT ((sm + (tN st i9))) (9)).length))), (0, .ref b), (1, .ref (ad 0)), (2, .int (nI bd)), (3, .int (nI at9)), (6, .ref (ad 31)), (7, .ref (ad 32)), (8, .ref (ad 33)), (9, .ref (ad 34)), (10, .ref (ad 35)), (11, .ref (ad 36)), (12, .int (nI d)), (13, .int (nI n)), (14, .int (nI mB)), (15, .int (nI nn)), (16, .int (nI t)), (20, .int (nI p9)), (21, .int (nI mn)), (22, .int (nI c9)), (23, .ref (ad (50 + i9))), (24, .int (nI sm)), (25, .int (nI i9)), (27, .int (nI mn))]) hx hb dL_law_1262 hl (by decide) rfl (fun ls hl => ?_)
          have hend : ((((numT i9 0).length + 1 + (lnsT (lnN st bd i9) mn).length) + 1) + (numT ((sm + (tN st i9))) (9)).length) = (txN st bd i9 mn).length := by have e9 := hA6; rw [if_pos c1224] at e9; omega
          rw [hend] at hl
          have hTl := hWOK.2.2.2.2.2.2.2.2.2.2.1
          refine lv_iload hx hb dL_law_1264 (lv_at hl 0 rfl) ?_
          refine x_if_lt_f hx hb dL_law_1266 (nI_pos (by omega)) ?_
          refine lv_aload_n hx hb dL_law_1269 rfl (lv_at hl 2 rfl) ?_
          refine lv_iload hx hb dL_law_1270 (lv_at hl 21 rfl) ?_
          refine lv_iconst (v := nI 0) hx hb dL_law_1272 (by decide) ?_
          refine cx_L_97 C h (hL 0 rfl) rfl (c_len l D cy ad hl0 (WOK_K hWOK hu29)) (by decide) ⟨by show _ ≤ 754712; omega, by show _ ≤ 6837489; omega⟩ hl.1 (Nat.le_of_ble_eq_true rfl) dL_law_1273 (x_noX (kLen_0 (by omega) (by omega))) (fun r32 u31 H locs hp h => ?_)
          obtain ⟨er, hu⟩ := len_post (WOK_K hWOK hu29) hp; clear hp; have hu31 := WK_tr hu29 hu; clear hu; refine x_topi er ?_; clear er r32
          refine lv_iload hx hb dL_law_1276 (lv_at hl 0 rfl) ?_
          refine x_icmp_ne_f (tgt := 1313) hx hb dL_law_1278 (by decide) rfl ?_
          refine lv_aload_n hx hb dL_law_1281 rfl (lv_at hl 2 rfl) ?_
          refine lv_iload hx hb dL_law_1282 (lv_at hl 21 rfl) ?_
          refine lv_iconst (v := nI 0) hx hb dL_law_1284 (by decide) ?_
          refine lv_iload hx hb dL_law_1285 (lv_at hl 0 rfl) ?_
          refine cx_L_28 C h (hL 0 rfl) rfl (c_wr l D cy ad hl0 (WOK_K hWOK hu31) (nI ((txN st bd i9 mn).length))) (by decide) ⟨by show _ ≤ 754712; omega, by show _ ≤ 6837489; omega⟩ hl.1 (Nat.le_of_ble_eq_true rfl) dL_law_1287 (x_noX (kWr_0 (by omega) (by omega) (by omega))) (fun r34 u33 H locs hp h => ?_)
          obtain ⟨er, hu⟩ := wr_post (WOK_K hWOK hu31) (by omega) hp; clear hp; have hu33 := WK_tr hu31 hu; clear hu; refine x_topi (y := nI 32) (er.trans (getD_end (by omega))) ?_; clear er r34
          refine lv_bipush (v := nI 32) hx hb dL_law_1290 (by decide) ?_
          refine x_icmp_ne_f (tgt := 1313) hx hb dL_law_1292 (by decide) rfl ?_
          refine lv_aload_n hx hb dL_law_1295 rfl (lv_at hl 2 rfl) ?_
          refine lv_iload hx hb dL_law_1296 (lv_at hl 21 rfl) ?_
          refine lv_iconst (v := nI 0) hx hb dL_law_1298 (by decide) ?_
          refine lv_iload hx hb dL_law_1299 (lv_at hl 0 rfl) ?_
          refine lv_sipush (v := nI 500) hx hb dL_law_1301 (by decide) ?_
          refine x_addN hx hb dL_law_1304 ?_
          refine cx_L_28 C h (hL 0 rfl) rfl (c_wr l D cy ad hl0 (WOK_K hWOK hu33) (nI ((txN st bd i9 mn).length + 500))) (by decide) ⟨by show _ ≤ 754712; omega, by show _ ≤ 6837489; omega⟩ hl.1 (Nat.le_of_ble_eq_true rfl) dL_law_1305 (x_noX (kWr_0 (by omega) (by omega) (by omega))) (fun r36 u35 H locs hp h => ?_)
          obtain ⟨er, hu⟩ := wr_post (WOK_K hWOK hu33) (by omega) hp; clear hp; have hu35 := WK_tr hu33 hu; clear hu; refine x_topi (y := nI 32) (er.trans (getD_end (by omega))) ?_; clear er r36
          refine lv_bipush (v := nI 32) hx hb dL_law_1308 (by decide) ?_
          refine x_icmp_eq_t (tgt := 1315) hx hb dL_law_1310 (by decide) rfl ?_
          refine lv_goto (tgt := 1478) hx hb dL_law_1315 (by decide) ?_
          refine W.widen (k := 3000 + 4000 * t) (n := 40000 + 40000 * t) (by omega) (by omega) ?_
          exact K p9 ad Ls u35 H locs ls at9 d n mB nn ln hp2 (by omega) (by omega) h (PI_WK hI9 hu35) (lv_sub hl [16, 1, 2, 3, 4, 5, 6, 7, 8, 9, 10, 11, 12, 13, 14, 15] rfl)
      · have hk3 : k < 3 := by omega
        obtain ⟨k1, k2, k3, k4, k5, k6, k7, k8, k9, k10, k11, k12, k13, k14, k15⟩ := ln_N hB (show k < ln i9 by omega)
        have hLn := At9_lns hA3 (show k < mn by omega)
        have hl1 := lnsT_len (f := (lnN st bd i9)) k (fun j hj => by obtain ⟨j1, j2, j3, _⟩ := ln_N hB (show j < ln i9 by omega); exact lnT_len (by omega) (by omega) (by omega))
        have hrt : rtO (ga st 31) (knoS st n (nI pl) (nI (kN st i9 k)) (nI d)) = nI (rN st i9 k) := (hbh _ (by omega)).symm.trans k10
        have hnum1 := numT_len9 (m := k + 1) (w := 3) (by omega) (by decide)
        have hnum2 := numT_len9 (m := kN st i9 k) (w := 0) (by omega) (by decide)
        have hnum3 := numT_len9 (m := qN st i9 k) (w := 0) (by omega) (by decide)
        refine lv_bipush (v := nI 9) hx hb dL_law_1045 (by decide) ?_
        refine lv_iload hx hb dL_law_1047 (lv_at hl 20 rfl) ?_
        refine x_mulN hx hb dL_law_1049 ?_
        refine lv_iconst (v := nI 3) hx hb dL_law_1050 (by decide) ?_
        refine lv_iload hx hb dL_law_1051 (lv_at hl 22 rfl) ?_
        refine x_mulN hx hb dL_law_1053 ?_
        refine x_addN hx hb dL_law_1054 ?_
        refine lv_istore (lv' := [(28, .int (nI ((9 * i9) + (3 * k)))), (0, .ref b), (1, .ref (ad 0)), (2, .int (nI bd)), (3, .int (nI at9)), (6, .ref (ad 31)), (7, .ref (ad 32)), (8, .ref (ad 33)), (9, .ref (ad 34)), (10, .ref (ad 35)), (11, .ref (ad 36)), (12, .int (nI d)), (13, .int (nI n)), (14, .int (nI mB)), (15, .int (nI nn)), (16, .int (nI t)), (20, .int (nI p9)), (21, .int (nI mn)), (22, .int (nI c9)), (23, .ref (ad (50 + i9))), (24, .int (nI sm)), (25, .int (nI i9)), (26, .int (nI ((numT i9 0).length + 1 + (lnsT (lnN st bd i9) k).length))), (27, .int (nI k))]) hx hb dL_law_1055 hl (by decide) rfl (fun ls hl => ?_)
        refine lv_aload hx hb dL_law_1057 (lv_at hl 7 rfl) ?_
        refine lv_iload hx hb dL_law_1059 (lv_at hl 0 rfl) ?_
        refine lv_iconst (v := nI 1) hx hb dL_law_1061 (by decide) ?_
        refine x_addN hx hb dL_law_1062 ?_
        refine x_ald C h (hR9 33 (by decide) (by decide)) (n := 64) rfl (((9 * i9) + (3 * k)) + 1) (by omega) (by decide) rfl dL_law_1063 ?_
        refine x_topi (y := nI (qN st i9 k)) (by rw [hv.2.2.2.1 33 (by decide)]; exact k12) ?_
        refine lv_aload hx hb dL_law_1064 (lv_at hl 7 rfl) ?_
        refine lv_iload hx hb dL_law_1066 (lv_at hl 0 rfl) ?_
        refine lv_iconst (v := nI 2) hx hb dL_law_1068 (by decide) ?_
        refine x_addN hx hb dL_law_1069 ?_
        refine x_ald C h (hR9 33 (by decide) (by decide)) (n := 64) rfl (((9 * i9) + (3 * k)) + 2) (by omega) (by decide) rfl dL_law_1070 ?_
        refine x_topi (y := nI (pN st i9 k)) (by rw [hv.2.2.2.1 33 (by decide)]; exact k13) ?_
        refine x_mulN hx hb dL_law_1071 ?_
        refine lv_istore (lv' := [(29, .int (nI ((qN st i9 k) * (pN st i9 k)))), (28, .int (nI ((9 * i9) + (3 * k)))), (0, .ref b), (1, .ref (ad 0)), (2, .int (nI bd)), (3, .int (nI at9)), (6, .ref (ad 31)), (7, .ref (ad 32)), (8, .ref (ad 33)), (9, .ref (ad 34)), (10, .ref (ad 35)), (11, .ref (ad 36)), (12, .int (nI d)), (13, .int (nI n)), (14, .int (nI mB)), (15, .int (nI nn)), (16, .int (nI t)), (20, .int (nI p9)), (21, .int (nI mn)), (22, .int (nI c9)), (23, .ref (ad (50 + i9))), (24, .int (nI sm)), (25, .int (nI i9)), (26, .int (nI ((numT i9 0).length + 1 + (lnsT (lnN st bd i9) k).length))), (27, .int (nI k))]) hx hb dL_law_1072 hl (by decide) rfl (fun ls hl => ?_)
        refine lv_iload hx hb dL_law_1074 (lv_at hl 0 rfl) ?_
        refine lv_aload hx hb dL_law_1076 (lv_at hl 20 rfl) ?_
        refine lv_iload hx hb dL_law_1078 (lv_at hl 24 rfl) ?_
        refine x_ald C h h50 (n := 4) (kd_50 (by omega)) k (by omega) (by decide) rfl dL_law_1080 ?_
        refine x_topi (y := oI (knoS st n (nI pl) (nI (kN st i9 k)) (nI d))) (by rw [hv.2.2.2.1 (50 + i9) (by omega)]; exact hby k (by omega)) ?_
        rcases hok : knoS st n (nI pl) (nI (kN st i9 k)) (nI d) with _ | j
        · rw [hok] at hrt
          refine lv_if_ge (tgt := 1088) hx hb dL_law_1081 (by decide) (fun q9 => absurd q9 (by decide)) (fun _ => ?_)
          refine lv_iconst (v := nI 0) hx hb dL_law_1084 (by decide) ?_
          refine lv_goto (tgt := 1100) hx hb dL_law_1085 (by decide) ?_
          refine x_topi (y := nI (rN st i9 k)) hrt ?_
          have hmr : qN st i9 k * pN st i9 k * rN st i9 k ≤ 989901 * 100 := Nat.mul_le_mul k14 k6
          have ham : qN st i9 k * pN st i9 k ≤ 989901 := k14
          refine x_mulN hx hb dL_law_1100 ?_
          refine lv_bipush (v := nI 50) hx hb dL_law_1101 (by decide) ?_
          refine x_addN hx hb dL_law_1103 ?_
          refine lv_bipush (v := nI 100) hx hb dL_law_1104 (by decide) ?_
          refine lv_idiv hx hb dL_law_1106 (by decide) ?_
          refine x_topi (y := nI (xN9 st i9 k)) (by rw [pk_div (by omega) (by decide) (by decide)]; rfl) ?_
          refine lv_istore (lv' := [(30, .int (nI (xN9 st i9 k))), (29, .int (nI ((qN st i9 k) * (pN st i9 k)))), (28, .int (nI ((9 * i9) + (3 * k)))), (0, .ref b), (1, .ref (ad 0)), (2, .int (nI bd)), (3, .int (nI at9)), (6, .ref (ad 31)), (7, .ref (ad 32)), (8, .ref (ad 33)), (9, .ref (ad 34)), (10, .ref (ad 35)), (11, .ref (ad 36)), (12, .int (nI d)), (13, .int (nI n)), (14, .int (nI mB)), (15, .int (nI nn)), (16, .int (nI t)), (20, .int (nI p9)), (21, .int (nI mn)), (22, .int (nI c9)), (23, .ref (ad (50 + i9))), (24, .int (nI sm)), (25, .int (nI i9)), (26, .int (nI ((numT i9 0).length + 1 + (lnsT (lnN st bd i9) k).length))), (27, .int (nI k))]) hx hb dL_law_1107 hl (by decide) rfl (fun ls hl => ?_)
          refine lv_aload_n hx hb dL_law_1109 rfl (lv_at hl 4 rfl) ?_
          refine lv_iload hx hb dL_law_1110 (lv_at hl 23 rfl) ?_
          refine lv_iload hx hb dL_law_1112 (lv_at hl 24 rfl) ?_
          refine lv_iconst (v := nI 3) hx hb dL_law_1114 (by decide) ?_
          refine lv_iload hx hb dL_law_1115 (lv_at hl 25 rfl) ?_
          refine lv_iconst (v := nI 1) hx hb dL_law_1117 (by decide) ?_
          refine x_addN hx hb dL_law_1118 ?_
          have hLT : At9 (txN st bd i9 mn) ((numT i9 0).length + 1 + (lnsT (lnN st bd i9) k).length) (numT (k + 1) 3 ++ ((if xN9 st i9 k + bd < amN st i9 k then nI 65 :: numT (kN st i9 k) 0 else nI 66 :: nI 42 :: numT (qN st i9 k) 0) ++ [nI 59])) := hLn
          obtain ⟨t1, t2⟩ := At9_app hLT
          refine ca_L_89 C h (c_L_number l D cy ad Ls v hl0 (WOK_K hWOK hv) (((numT i9 0).length + 1 + (lnsT (lnN st bd i9) k).length)) (by omega) (3) ((k + 1)) (by omega) (by omega) t1) (by decide) ⟨by show _ ≤ 754712; omega, by show _ ≤ 6837489; omega⟩ hl.1 (Nat.le_of_ble_eq_true rfl) dL_law_1119 (fun r38 u37 H locs hp h => ?_)
          obtain ⟨er, hu⟩ := hp; have hu37 := WK_tr hv hu; clear hu; refine x_topi er ?_; clear er r38
          refine lv_istore (lv' := [(26, .int (nI (((numT i9 0).length + 1 + (lnsT (lnN st bd i9) k).length) + (numT ((k + 1)) (3)).length))), (30, .int (nI (xN9 st i9 k))), (29, .int (nI ((qN st i9 k) * (pN st i9 k)))), (28, .int (nI ((9 * i9) + (3 * k)))), (0, .ref b), (1, .ref (ad 0)), (2, .int (nI bd)), (3, .int (nI at9)), (6, .ref (ad 31)), (7, .ref (ad 32)), (8, .ref (ad 33)), (9, .ref (ad 34)), (10, .ref (ad 35)), (11, .ref (ad 36)), (12, .int (nI d)), (13, .int (nI n)), (14, .int (nI mB)), (15, .int (nI nn)), (16, .int (nI t)), (20, .int (nI p9)), (21, .int (nI mn)), (22, .int (nI c9)), (23, .ref (ad (50 + i9))), (24, .int (nI sm)), (25, .int (nI i9)), (27, .int (nI k))]) hx hb dL_law_1122 hl (by decide) rfl (fun ls hl => ?_)
          refine lv_iload hx hb dL_law_1124 (lv_at hl 2 rfl) ?_
          refine lv_iload hx hb dL_law_1126 (lv_at hl 1 rfl) ?_
          refine lv_iload_n hx hb dL_law_1128 rfl (lv_at hl 6 rfl) ?_
          refine x_addN hx hb dL_law_1129 ?_
          refine x_icmpN_le (tgt := 1160) hx hb dL_law_1130 (by decide) (by omega) (by omega) (fun c1130 => ?_) (fun c1130 => ?_)
          · rw [if_neg (show ¬ xN9 st i9 k + bd < amN st i9 k from Nat.not_lt.mpr c1130)] at t2
            obtain ⟨t3, t4⟩ := At9_app t2
            obtain ⟨t5, t6⟩ := At9_cons t3
            obtain ⟨t8, t9⟩ := At9_cons t6
            rw [List.length_cons, List.length_cons] at t4
            have t7 := (At9_cons t4).1
            refine lv_aload_n hx hb dL_law_1160 rfl (lv_at hl 5 rfl) ?_
            refine lv_iload hx hb dL_law_1161 (lv_at hl 24 rfl) ?_
            refine lv_aload_n hx hb dL_law_1163 rfl (lv_at hl 5 rfl) ?_
            refine lv_iload hx hb dL_law_1164 (lv_at hl 24 rfl) ?_
            refine lv_aload_n hx hb dL_law_1166 rfl (lv_at hl 5 rfl) ?_
            refine lv_iload hx hb dL_law_1167 (lv_at hl 24 rfl) ?_
            refine lv_iload hx hb dL_law_1169 (lv_at hl 0 rfl) ?_
            refine lv_bipush (v := nI 66) hx hb dL_law_1171 (by decide) ?_
            refine ca_L_93 C h (c_L_sign l D cy ad Ls u37 hl0 (WOK_K hWOK hu37) ((((numT i9 0).length + 1 + (lnsT (lnN st bd i9) k).length) + (numT ((k + 1)) (3)).length)) (by omega) 66 t5) (by decide) ⟨by show _ ≤ 754712; omega, by show _ ≤ 6837489; omega⟩ hl.1 (Nat.le_of_ble_eq_true rfl) dL_law_1173 (fun r40 u39 H locs hp h => ?_)
            obtain ⟨er, hu⟩ := hp; have hu39 := WK_tr hu37 hu; clear hu; refine x_topi er ?_; clear er r40
            refine lv_bipush (v := nI 42) hx hb dL_law_1176 (by decide) ?_
            refine ca_L_93 C h (c_L_sign l D cy ad Ls u39 hl0 (WOK_K hWOK hu39) (((((numT i9 0).length + 1 + (lnsT (lnN st bd i9) k).length) + (numT ((k + 1)) (3)).length) + 1)) (by omega) 42 t8) (by decide) ⟨by show _ ≤ 754712; omega, by show _ ≤ 6837489; omega⟩ hl.1 (Nat.le_of_ble_eq_true rfl) dL_law_1178 (fun r42 u41 H locs hp h => ?_)
            obtain ⟨er, hu⟩ := hp; have hu41 := WK_tr hu39 hu; clear hu; refine x_topi er ?_; clear er r42
            refine lv_iconst (v := nI 0) hx hb dL_law_1181 (by decide) ?_
            refine lv_aload hx hb dL_law_1182 (lv_at hl 10 rfl) ?_
            refine lv_iload hx hb dL_law_1184 (lv_at hl 3 rfl) ?_
            refine lv_iconst (v := nI 1) hx hb dL_law_1186 (by decide) ?_
            refine x_addN hx hb dL_law_1187 ?_
            refine x_ald C h (hR9 33 (by decide) (by decide)) (n := 64) rfl (((9 * i9) + (3 * k)) + 1) (by omega) (by decide) rfl dL_law_1188 ?_
            refine x_topi (y := nI (qN st i9 k)) (by rw [hu41.2.2.2.1 33 (by decide)]; exact k12) ?_
            refine ca_L_89 C h (c_L_number l D cy ad Ls u41 hl0 (WOK_K hWOK hu41) ((((((numT i9 0).length + 1 + (lnsT (lnN st bd i9) k).length) + (numT ((k + 1)) (3)).length) + 1) + 1)) (by omega) (0) ((qN st i9 k)) (by omega) (by omega) t9) (by decide) ⟨by show _ ≤ 754712; omega, by show _ ≤ 6837489; omega⟩ hl.1 (Nat.le_of_ble_eq_true rfl) dL_law_1189 (fun r44 u43 H locs hp h => ?_)
            obtain ⟨er, hu⟩ := hp; have hu43 := WK_tr hu41 hu; clear hu; refine x_topi er ?_; clear er r44
            refine lv_istore (lv' := [(26, .int (nI ((((((numT i9 0).length + 1 + (lnsT (lnN st bd i9) k).length) + (numT ((k + 1)) (3)).length) + 1) + 1) + (numT ((qN st i9 k)) (0)).length))), (30, .int (nI (xN9 st i9 k))), (29, .int (nI ((qN st i9 k) * (pN st i9 k)))), (28, .int (nI ((9 * i9) + (3 * k)))), (0, .ref b), (1, .ref (ad 0)), (2, .int (nI bd)), (3, .int (nI at9)), (6, .ref (ad 31)), (7, .ref (ad 32)), (8, .ref (ad 33)), (9, .ref (ad 34)), (10, .ref (ad 35)), (11, .ref (ad 36)), (12, .int (nI d)), (13, .int (nI n)), (14, .int (nI mB)), (15, .int (nI nn)), (16, .int (nI t)), (20, .int (nI p9)), (21, .int (nI mn)), (22, .int (nI c9)), (23, .ref (ad (50 + i9))), (24, .int (nI sm)), (25, .int (nI i9)), (27, .int (nI k))]) hx hb dL_law_1192 hl (by decide) rfl (fun ls hl => ?_)
            refine lv_aload_n hx hb dL_law_1194 rfl (lv_at hl 5 rfl) ?_
            refine lv_iload hx hb dL_law_1195 (lv_at hl 24 rfl) ?_
            refine lv_iload hx hb dL_law_1197 (lv_at hl 0 rfl) ?_
            refine lv_bipush (v := nI 59) hx hb dL_law_1199 (by decide) ?_
            refine ca_L_93 C h (c_L_sign l D cy ad Ls u43 hl0 (WOK_K hWOK hu43) (((((((numT i9 0).length + 1 + (lnsT (lnN st bd i9) k).length) + (numT ((k + 1)) (3)).length) + 1) + 1) + (numT ((qN st i9 k)) (0)).length)) (by omega) 59 (by rw [show ((((((numT i9 0).length + 1 + (lnsT (lnN st bd i9) k).length) + (numT ((k + 1)) (3)).length) + 1) + 1) + (numT ((qN st i9 k)) (0)).length) = (numT i9 0).length + 1 + (lnsT (lnN st bd i9) k).length + (numT (k + 1) 3).length + ((numT (qN st i9 k) 0).length + 1 + 1) by omega]; exact t7)) (by decide) ⟨by show _ ≤ 754712; omega, by show _ ≤ 6837489; omega⟩ hl.1 (Nat.le_of_ble_eq_true rfl) dL_law_1201 (fun r46 u45 H locs hp h => ?_)
            obtain ⟨er, hu⟩ := hp; have hu45 := WK_tr hu43 hu; clear hu; refine x_topi er ?_; clear er r46
            refine lv_istore (lv' := [(26, .int (nI (((((((numT i9 0).length + 1 + (lnsT (lnN st bd i9) k).length) + (numT ((k + 1)) (3)).length) + 1) + 1) + (numT ((qN st i9 k)) (0)).length) + 1))), (30, .int (nI (xN9 st i9 k))), (29, .int (nI ((qN st i9 k) * (pN st i9 k)))), (28, .int (nI ((9 * i9) + (3 * k)))), (0, .ref b), (1, .ref (ad 0)), (2, .int (nI bd)), (3, .int (nI at9)), (6, .ref (ad 31)), (7, .ref (ad 32)), (8, .ref (ad 33)), (9, .ref (ad 34)), (10, .ref (ad 35)), (11, .ref (ad 36)), (12, .int (nI d)), (13, .int (nI n)), (14, .int (nI mB)), (15, .int (nI nn)), (16, .int (nI t)), (20, .int (nI p9)), (21, .int (nI mn)), (22, .int (nI c9)), (23, .ref (ad (50 + i9))), (24, .int (nI sm)), (25, .int (nI i9)), (27, .int (nI k))]) hx hb dL_law_1204 hl (by decide) rfl (fun ls hl => ?_)
            refine lv_iinc (v := nI (k + 1)) (lv' := [(27, .int (nI (k + 1))), (26, .int (nI (((((((numT i9 0).length + 1 + (lnsT (lnN st bd i9) k).length) + (numT ((k + 1)) (3)).length) + 1) + 1) + (numT ((qN st i9 k)) (0)).length) + 1))), (30, .int (nI (xN9 st i9 k))), (29, .int (nI ((qN st i9 k) * (pN st i9 k)))), (28, .int (nI ((9 * i9) + (3 * k)))), (0, .ref b), (1, .ref (ad 0)), (2, .int (nI bd)), (3, .int (nI at9)), (6, .ref (ad 31)), (7, .ref (ad 32)), (8, .ref (ad 33)), (9, .ref (ad 34)), (10, .ref (ad 35)), (11, .ref (ad 36)), (12, .int (nI d)), (13, .int (nI n)), (14, .int (nI mB)), (15, .int (nI nn)), (16, .int (nI t)), (20, .int (nI p9)), (21, .int (nI mn)), (22, .int (nI c9)), (23, .ref (ad (50 + i9))), (24, .int (nI sm)), (25, .int (nI i9))]) hx hb dL_law_1206 hl (k := 25) rfl (nI_add _ _) (by decide) rfl (fun ls hl => ?_)
            refine lv_goto (tgt := 1038) hx hb dL_law_1209 (by decide) ?_
            have hpos : (((((((numT i9 0).length + 1 + (lnsT (lnN st bd i9) k).length) + (numT ((k + 1)) (3)).length) + 1) + 1) + (numT ((qN st i9 k)) (0)).length) + 1) = (numT i9 0).length + 1 + (lnsT (lnN st bd i9) (k + 1)).length := by
              rw [show lnsT (lnN st bd i9) (k + 1) = lnsT (lnN st bd i9) k ++ lnT bd k (kN st i9 k) (amN st i9 k) (xN9 st i9 k) (qN st i9 k) from rfl]; unfold lnT; rw [if_neg (show ¬ xN9 st i9 k + bd < amN st i9 k from Nat.not_lt.mpr c1130)]; simp only [List.length_append, List.length_cons, List.length_nil]; omega
            rw [hpos] at hl
            refine W.widen (k := 1401 + 4000 * t + 172 * (k + 1)) (n := 12000 + 40000 * t + 1032 * (k + 1)) (by omega) (by omega) ?_
            exact ih1038 u45 (k + 1) hu45 (by omega) (by omega) H locs ls h (lv_sub hl [5, 6, 7, 8, 9, 10, 11, 12, 13, 14, 15, 16, 17, 18, 19, 20, 21, 22, 23, 24, 25, 1, 0] rfl)
          · rw [if_pos (show xN9 st i9 k + bd < amN st i9 k from c1130)] at t2
            obtain ⟨t3, t4⟩ := At9_app t2
            obtain ⟨t5, t6⟩ := At9_cons t3
            rw [List.length_cons] at t4
            have t7 := (At9_cons t4).1
            refine lv_aload_n hx hb dL_law_1133 rfl (lv_at hl 5 rfl) ?_
            refine lv_iload hx hb dL_law_1134 (lv_at hl 24 rfl) ?_
            refine lv_aload_n hx hb dL_law_1136 rfl (lv_at hl 5 rfl) ?_
            refine lv_iload hx hb dL_law_1137 (lv_at hl 24 rfl) ?_
            refine lv_iload hx hb dL_law_1139 (lv_at hl 0 rfl) ?_
            refine lv_bipush (v := nI 65) hx hb dL_law_1141 (by decide) ?_
            refine ca_L_93 C h (c_L_sign l D cy ad Ls u37 hl0 (WOK_K hWOK hu37) ((((numT i9 0).length + 1 + (lnsT (lnN st bd i9) k).length) + (numT ((k + 1)) (3)).length)) (by omega) 65 t5) (by decide) ⟨by show _ ≤ 754712; omega, by show _ ≤ 6837489; omega⟩ hl.1 (Nat.le_of_ble_eq_true rfl) dL_law_1143 (fun r48 u47 H locs hp h => ?_)
            obtain ⟨er, hu⟩ := hp; have hu47 := WK_tr hu37 hu; clear hu; refine x_topi er ?_; clear er r48
            refine lv_iconst (v := nI 0) hx hb dL_law_1146 (by decide) ?_
            refine lv_aload hx hb dL_law_1147 (lv_at hl 10 rfl) ?_
            refine lv_iload hx hb dL_law_1149 (lv_at hl 3 rfl) ?_
            refine x_ald C h (hR9 33 (by decide) (by decide)) (n := 64) rfl ((9 * i9) + (3 * k)) (by omega) (by decide) rfl dL_law_1151 ?_
            refine x_topi (y := nI (kN st i9 k)) (by rw [hu47.2.2.2.1 33 (by decide)]; exact k11) ?_
            refine ca_L_89 C h (c_L_number l D cy ad Ls u47 hl0 (WOK_K hWOK hu47) (((((numT i9 0).length + 1 + (lnsT (lnN st bd i9) k).length) + (numT ((k + 1)) (3)).length) + 1)) (by omega) (0) ((kN st i9 k)) (by omega) (by omega) t6) (by decide) ⟨by show _ ≤ 754712; omega, by show _ ≤ 6837489; omega⟩ hl.1 (Nat.le_of_ble_eq_true rfl) dL_law_1152 (fun r50 u49 H locs hp h => ?_)
            obtain ⟨er, hu⟩ := hp; have hu49 := WK_tr hu47 hu; clear hu; refine x_topi er ?_; clear er r50
            refine lv_istore (lv' := [(26, .int (nI (((((numT i9 0).length + 1 + (lnsT (lnN st bd i9) k).length) + (numT ((k + 1)) (3)).length) + 1) + (numT ((kN st i9 k)) (0)).length))), (30, .int (nI (xN9 st i9 k))), (29, .int (nI ((qN st i9 k) * (pN st i9 k)))), (28, .int (nI ((9 * i9) + (3 * k)))), (0, .ref b), (1, .ref (ad 0)), (2, .int (nI bd)), (3, .int (nI at9)), (6, .ref (ad 31)), (7, .ref (ad 32)), (8, .ref (ad 33)), (9, .ref (ad 34)), (10, .ref (ad 35)), (11, .ref (ad 36)), (12, .int (nI d)), (13, .int (nI n)), (14, .int (nI mB)), (15, .int (nI nn)), (16, .int (nI t)), (20, .int (nI p9)), (21, .int (nI mn)), (22, .int (nI c9)), (23, .ref (ad (50 + i9))), (24, .int (nI sm)), (25, .int (nI i9)), (27, .int (nI k))]) hx hb dL_law_1155 hl (by decide) rfl (fun ls hl => ?_)
            refine lv_goto (tgt := 1194) hx hb dL_law_1157 (by decide) ?_
            refine lv_aload_n hx hb dL_law_1194 rfl (lv_at hl 5 rfl) ?_
            refine lv_iload hx hb dL_law_1195 (lv_at hl 24 rfl) ?_
            refine lv_iload hx hb dL_law_1197 (lv_at hl 0 rfl) ?_
            refine lv_bipush (v := nI 59) hx hb dL_law_1199 (by decide) ?_
            refine ca_L_93 C h (c_L_sign l D cy ad Ls u49 hl0 (WOK_K hWOK hu49) ((((((numT i9 0).length + 1 + (lnsT (lnN st bd i9) k).length) + (numT ((k + 1)) (3)).length) + 1) + (numT ((kN st i9 k)) (0)).length)) (by omega) 59 (by rw [show (((((numT i9 0).length + 1 + (lnsT (lnN st bd i9) k).length) + (numT ((k + 1)) (3)).length) + 1) + (numT ((kN st i9 k)) (0)).length) = (numT i9 0).length + 1 + (lnsT (lnN st bd i9) k).length + (numT (k + 1) 3).length + ((numT (kN st i9 k) 0).length + 1) by omega]; exact t7)) (by decide) ⟨by show _ ≤ 754712; omega, by show _ ≤ 6837489; omega⟩ hl.1 (Nat.le_of_ble_eq_true rfl) dL_law_1201 (fun r52 u51 H locs hp h => ?_)
            obtain ⟨er, hu⟩ := hp; have hu51 := WK_tr hu49 hu; clear hu; refine x_topi er ?_; clear er r52
            refine lv_istore (lv' := [(26, .int (nI ((((((numT i9 0).length + 1 + (lnsT (lnN st bd i9) k).length) + (numT ((k + 1)) (3)).length) + 1) + (numT ((kN st i9 k)) (0)).length) + 1))), (30, .int (nI (xN9 st i9 k))), (29, .int (nI ((qN st i9 k) * (pN st i9 k)))), (28, .int (nI ((9 * i9) + (3 * k)))), (0, .ref b), (1, .ref (ad 0)), (2, .int (nI bd)), (3, .int (nI at9)), (6, .ref (ad 31)), (7, .ref (ad 32)), (8, .ref (ad 33)), (9, .ref (ad 34)), (10, .ref (ad 35)), (11, .ref (ad 36)), (12, .int (nI d)), (13, .int (nI n)), (14, .int (nI mB)), (15, .int (nI nn)), (16, .int (nI t)), (20, .int (nI p9)), (21, .int (nI mn)), (22, .int (nI c9)), (23, .ref (ad (50 + i9))), (24, .int (nI sm)), (25, .int (nI i9)), (27, .int (nI k))]) hx hb dL_law_1204 hl (by decide) rfl (fun ls hl => ?_)
            refine lv_iinc (v := nI (k + 1)) (lv' := [(27, .int (nI (k + 1))), (26, .int (nI ((((((numT i9 0).length + 1 + (lnsT (lnN st bd i9) k).length) + (numT ((k + 1)) (3)).length) + 1) + (numT ((kN st i9 k)) (0)).length) + 1))), (30, .int (nI (xN9 st i9 k))), (29, .int (nI ((qN st i9 k) * (pN st i9 k)))), (28, .int (nI ((9 * i9) + (3 * k)))), (0, .ref b), (1, .ref (ad 0)), (2, .int (nI bd)), (3, .int (nI at9)), (6, .ref (ad 31)), (7, .ref (ad 32)), (8, .ref (ad 33)), (9, .ref (ad 34)), (10, .ref (ad 35)), (11, .ref (ad 36)), (12, .int (nI d)), (13, .int (nI n)), (14, .int (nI mB)), (15, .int (nI nn)), (16, .int (nI t)), (20, .int (nI p9)), (21, .int (nI mn)), (22, .int (nI c9)), (23, .ref (ad (50 + i9))), (24, .int (nI sm)), (25, .int (nI i9))]) hx hb dL_law_1206 hl (k := 25) rfl (nI_add _ _) (by decide) rfl (fun ls hl => ?_)
            refine lv_goto (tgt := 1038) hx hb dL_law_1209 (by decide) ?_
            have hpos : ((((((numT i9 0).length + 1 + (lnsT (lnN st bd i9) k).length) + (numT ((k + 1)) (3)).length) + 1) + (numT ((kN st i9 k)) (0)).length) + 1) = (numT i9 0).length + 1 + (lnsT (lnN st bd i9) (k + 1)).length := by
              rw [show lnsT (lnN st bd i9) (k + 1) = lnsT (lnN st bd i9) k ++ lnT bd k (kN st i9 k) (amN st i9 k) (xN9 st i9 k) (qN st i9 k) from rfl]; unfold lnT; rw [if_pos (show xN9 st i9 k + bd < amN st i9 k from c1130)]; simp only [List.length_append, List.length_cons, List.length_nil]; omega
            rw [hpos] at hl
            refine W.widen (k := 1401 + 4000 * t + 172 * (k + 1)) (n := 12000 + 40000 * t + 1032 * (k + 1)) (by omega) (by omega) ?_
            exact ih1038 u51 (k + 1) hu51 (by omega) (by omega) H locs ls h (lv_sub hl [5, 6, 7, 8, 9, 10, 11, 12, 13, 14, 15, 16, 17, 18, 19, 20, 21, 22, 23, 24, 25, 1, 0] rfl)
        · rw [hok] at hrt
          have hjn : j < n := knO_lt _ _ _ _ _ _ _ _ hok
          refine x_if_ge_t (tgt := 1088) hx hb dL_law_1081 (by decide) (nI_pos' (by omega)) ?_
          refine lv_aload hx hb dL_law_1088 (lv_at hl 6 rfl) ?_
          refine lv_iconst (v := nI 4) hx hb dL_law_1090 (by decide) ?_
          refine lv_aload hx hb dL_law_1091 (lv_at hl 20 rfl) ?_
          refine lv_iload hx hb dL_law_1093 (lv_at hl 24 rfl) ?_
          refine x_ald C h h50 (n := 4) (kd_50 (by omega)) k (by omega) (by decide) rfl dL_law_1095 ?_
          refine x_topi (y := nI j) (by rw [hv.2.2.2.1 (50 + i9) (by omega), hby k (by omega), hok]; rfl) ?_
          refine x_mulN hx hb dL_law_1096 ?_
          refine lv_iconst (v := nI 2) hx hb dL_law_1097 (by decide) ?_
          refine x_addN hx hb dL_law_1098 ?_
          refine x_ald C h (hR9 31 (by decide) (by decide)) (n := 64) rfl (4 * j + 2) (by omega) (by decide) rfl dL_law_1099 ?_
          refine x_topi (y := nI (rN st i9 k)) (by rw [hv.2.2.2.1 31 (by decide)]; exact hrt) ?_
          have hmr : qN st i9 k * pN st i9 k * rN st i9 k ≤ 989901 * 100 := Nat.mul_le_mul k14 k6
          have ham : qN st i9 k * pN st i9 k ≤ 989901 := k14
          refine x_mulN hx hb dL_law_1100 ?_
          refine lv_bipush (v := nI 50) hx hb dL_law_1101 (by decide) ?_
          refine x_addN hx hb dL_law_1103 ?_
          refine lv_bipush (v := nI 100) hx hb dL_law_1104 (by decide) ?_
          refine lv_idiv hx hb dL_law_1106 (by decide) ?_
          refine x_topi (y := nI (xN9 st i9 k)) (by rw [pk_div (by omega) (by decide) (by decide)]; rfl) ?_
          refine lv_istore (lv' := [(30, .int (nI (xN9 st i9 k))), (29, .int (nI ((qN st i9 k) * (pN st i9 k)))), (28, .int (nI ((9 * i9) + (3 * k)))), (0, .ref b), (1, .ref (ad 0)), (2, .int (nI bd)), (3, .int (nI at9)), (6, .ref (ad 31)), (7, .ref (ad 32)), (8, .ref (ad 33)), (9, .ref (ad 34)), (10, .ref (ad 35)), (11, .ref (ad 36)), (12, .int (nI d)), (13, .int (nI n)), (14, .int (nI mB)), (15, .int (nI nn)), (16, .int (nI t)), (20, .int (nI p9)), (21, .int (nI mn)), (22, .int (nI c9)), (23, .ref (ad (50 + i9))), (24, .int (nI sm)), (25, .int (nI i9)), (26, .int (nI ((numT i9 0).length + 1 + (lnsT (lnN st bd i9) k).length))), (27, .int (nI k))]) hx hb dL_law_1107 hl (by decide) rfl (fun ls hl => ?_)
          refine lv_aload_n hx hb dL_law_1109 rfl (lv_at hl 4 rfl) ?_
          refine lv_iload hx hb dL_law_1110 (lv_at hl 23 rfl) ?_
          refine lv_iload hx hb dL_law_1112 (lv_at hl 24 rfl) ?_
          refine lv_iconst (v := nI 3) hx hb dL_law_1114 (by decide) ?_
          refine lv_iload hx hb dL_law_1115 (lv_at hl 25 rfl) ?_
          refine lv_iconst (v := nI 1) hx hb dL_law_1117 (by decide) ?_
          refine x_addN hx hb dL_law_1118 ?_
          have hLT : At9 (txN st bd i9 mn) ((numT i9 0).length + 1 + (lnsT (lnN st bd i9) k).length) (numT (k + 1) 3 ++ ((if xN9 st i9 k + bd < amN st i9 k then nI 65 :: numT (kN st i9 k) 0 else nI 66 :: nI 42 :: numT (qN st i9 k) 0) ++ [nI 59])) := hLn
          obtain ⟨t1, t2⟩ := At9_app hLT
          refine ca_L_89 C h (c_L_number l D cy ad Ls v hl0 (WOK_K hWOK hv) (((numT i9 0).length + 1 + (lnsT (lnN st bd i9) k).length)) (by omega) (3) ((k + 1)) (by omega) (by omega) t1) (by decide) ⟨by show _ ≤ 754712; omega, by show _ ≤ 6837489; omega⟩ hl.1 (Nat.le_of_ble_eq_true rfl) dL_law_1119 (fun r54 u53 H locs hp h => ?_)
          obtain ⟨er, hu⟩ := hp; have hu53 := WK_tr hv hu; clear hu; refine x_topi er ?_; clear er r54
          refine lv_istore (lv' := [(26, .int (nI (((numT i9 0).length + 1 + (lnsT (lnN st bd i9) k).length) + (numT ((k + 1)) (3)).length))), (30, .int (nI (xN9 st i9 k))), (29, .int (nI ((qN st i9 k) * (pN st i9 k)))), (28, .int (nI ((9 * i9) + (3 * k)))), (0, .ref b), (1, .ref (ad 0)), (2, .int (nI bd)), (3, .int (nI at9)), (6, .ref (ad 31)), (7, .ref (ad 32)), (8, .ref (ad 33)), (9, .ref (ad 34)), (10, .ref (ad 35)), (11, .ref (ad 36)), (12, .int (nI d)), (13, .int (nI n)), (14, .int (nI mB)), (15, .int (nI nn)), (16, .int (nI t)), (20, .int (nI p9)), (21, .int (nI mn)), (22, .int (nI c9)), (23, .ref (ad (50 + i9))), (24, .int (nI sm)), (25, .int (nI i9)), (27, .int (nI k))]) hx hb dL_law_1122 hl (by decide) rfl (fun ls hl => ?_)
          refine lv_iload hx hb dL_law_1124 (lv_at hl 2 rfl) ?_
          refine lv_iload hx hb dL_law_1126 (lv_at hl 1 rfl) ?_
          refine lv_iload_n hx hb dL_law_1128 rfl (lv_at hl 6 rfl) ?_
          refine x_addN hx hb dL_law_1129 ?_
          refine x_icmpN_le (tgt := 1160) hx hb dL_law_1130 (by decide) (by omega) (by omega) (fun c1130 => ?_) (fun c1130 => ?_)
          · rw [if_neg (show ¬ xN9 st i9 k + bd < amN st i9 k from Nat.not_lt.mpr c1130)] at t2
            obtain ⟨t3, t4⟩ := At9_app t2
            obtain ⟨t5, t6⟩ := At9_cons t3
            obtain ⟨t8, t9⟩ := At9_cons t6
            rw [List.length_cons, List.length_cons] at t4
            have t7 := (At9_cons t4).1
            refine lv_aload_n hx hb dL_law_1160 rfl (lv_at hl 5 rfl) ?_
            refine lv_iload hx hb dL_law_1161 (lv_at hl 24 rfl) ?_
            refine lv_aload_n hx hb dL_law_1163 rfl (lv_at hl 5 rfl) ?_
            refine lv_iload hx hb dL_law_1164 (lv_at hl 24 rfl) ?_
            refine lv_aload_n hx hb dL_law_1166 rfl (lv_at hl 5 rfl) ?_
            refine lv_iload hx hb dL_law_1167 (lv_at hl 24 rfl) ?_
            refine lv_iload hx hb dL_law_1169 (lv_at hl 0 rfl) ?_
            refine lv_bipush (v := nI 66) hx hb dL_law_1171 (by decide) ?_
            refine ca_L_93 C h (c_L_sign l D cy ad Ls u53 hl0 (WOK_K hWOK hu53) ((((numT i9 0).length + 1 + (lnsT (lnN st bd i9) k).length) + (numT ((k + 1)) (3)).length)) (by omega) 66 t5) (by decide) ⟨by show _ ≤ 754712; omega, by show _ ≤ 6837489; omega⟩ hl.1 (Nat.le_of_ble_eq_true rfl) dL_law_1173 (fun r56 u55 H locs hp h => ?_)
            obtain ⟨er, hu⟩ := hp; have hu55 := WK_tr hu53 hu; clear hu; refine x_topi er ?_; clear er r56
            refine lv_bipush (v := nI 42) hx hb dL_law_1176 (by decide) ?_
            refine ca_L_93 C h (c_L_sign l D cy ad Ls u55 hl0 (WOK_K hWOK hu55) (((((numT i9 0).length + 1 + (lnsT (lnN st bd i9) k).length) + (numT ((k + 1)) (3)).length) + 1)) (by omega) 42 t8) (by decide) ⟨by show _ ≤ 754712; omega, by show _ ≤ 6837489; omega⟩ hl.1 (Nat.le_of_ble_eq_true rfl) dL_law_1178 (fun r58 u57 H locs hp h => ?_)
            obtain ⟨er, hu⟩ := hp; have hu57 := WK_tr hu55 hu; clear hu; refine x_topi er ?_; clear er r58
            refine lv_iconst (v := nI 0) hx hb dL_law_1181 (by decide) ?_
            refine lv_aload hx hb dL_law_1182 (lv_at hl 10 rfl) ?_
            refine lv_iload hx hb dL_law_1184 (lv_at hl 3 rfl) ?_
            refine lv_iconst (v := nI 1) hx hb dL_law_1186 (by decide) ?_
            refine x_addN hx hb dL_law_1187 ?_
            refine x_ald C h (hR9 33 (by decide) (by decide)) (n := 64) rfl (((9 * i9) + (3 * k)) + 1) (by omega) (by decide) rfl dL_law_1188 ?_
            refine x_topi (y := nI (qN st i9 k)) (by rw [hu57.2.2.2.1 33 (by decide)]; exact k12) ?_
            refine ca_L_89 C h (c_L_number l D cy ad Ls u57 hl0 (WOK_K hWOK hu57) ((((((numT i9 0).length + 1 + (lnsT (lnN st bd i9) k).length) + (numT ((k + 1)) (3)).length) + 1) + 1)) (by omega) (0) ((qN st i9 k)) (by omega) (by omega) t9) (by decide) ⟨by show _ ≤ 754712; omega, by show _ ≤ 6837489; omega⟩ hl.1 (Nat.le_of_ble_eq_true rfl) dL_law_1189 (fun r60 u59 H locs hp h => ?_)
            obtain ⟨er, hu⟩ := hp; have hu59 := WK_tr hu57 hu; clear hu; refine x_topi er ?_; clear er r60
            refine lv_istore (lv' := [(26, .int (nI ((((((numT i9 0).length + 1 + (lnsT (lnN st bd i9) k).length) + (numT ((k + 1)) (3)).length) + 1) + 1) + (numT ((qN st i9 k)) (0)).length))), (30, .int (nI (xN9 st i9 k))), (29, .int (nI ((qN st i9 k) * (pN st i9 k)))), (28, .int (nI ((9 * i9) + (3 * k)))), (0, .ref b), (1, .ref (ad 0)), (2, .int (nI bd)), (3, .int (nI at9)), (6, .ref (ad 31)), (7, .ref (ad 32)), (8, .ref (ad 33)), (9, .ref (ad 34)), (10, .ref (ad 35)), (11, .ref (ad 36)), (12, .int (nI d)), (13, .int (nI n)), (14, .int (nI mB)), (15, .int (nI nn)), (16, .int (nI t)), (20, .int (nI p9)), (21, .int (nI mn)), (22, .int (nI c9)), (23, .ref (ad (50 + i9))), (24, .int (nI sm)), (25, .int (nI i9)), (27, .int (nI k))]) hx hb dL_law_1192 hl (by decide) rfl (fun ls hl => ?_)
            refine lv_aload_n hx hb dL_law_1194 rfl (lv_at hl 5 rfl) ?_
            refine lv_iload hx hb dL_law_1195 (lv_at hl 24 rfl) ?_
            refine lv_iload hx hb dL_law_1197 (lv_at hl 0 rfl) ?_
            refine lv_bipush (v := nI 59) hx hb dL_law_1199 (by decide) ?_
            refine ca_L_93 C h (c_L_sign l D cy ad Ls u59 hl0 (WOK_K hWOK hu59) (((((((numT i9 0).length + 1 + (lnsT (lnN st bd i9) k).length) + (numT ((k + 1)) (3)).length) + 1) + 1) + (numT ((qN st i9 k)) (0)).length)) (by omega) 59 (by rw [show ((((((numT i9 0).length + 1 + (lnsT (lnN st bd i9) k).length) + (numT ((k + 1)) (3)).length) + 1) + 1) + (numT ((qN st i9 k)) (0)).length) = (numT i9 0).length + 1 + (lnsT (lnN st bd i9) k).length + (numT (k + 1) 3).length + ((numT (qN st i9 k) 0).length + 1 + 1) by omega]; exact t7)) (by decide) ⟨by show _ ≤ 754712; omega, by show _ ≤ 6837489; omega⟩ hl.1 (Nat.le_of_ble_eq_true rfl) dL_law_1201 (fun r62 u61 H locs hp h => ?_)
            obtain ⟨er, hu⟩ := hp; have hu61 := WK_tr hu59 hu; clear hu; refine x_topi er ?_; clear er r62
            refine lv_istore (lv' := [(26, .int (nI (((((((numT i9 0).length + 1 + (lnsT (lnN st bd i9) k).length) + (numT ((k + 1)) (3)).length) + 1) + 1) + (numT ((qN st i9 k)) (0)).length) + 1))), (30, .int (nI (xN9 st i9 k))), (29, .int (nI ((qN st i9 k) * (pN st i9 k)))), (28, .int (nI ((9 * i9) + (3 * k)))), (0, .ref b), (1, .ref (ad 0)), (2, .int (nI bd)), (3, .int (nI at9)), (6, .ref (ad 31)), (7, .ref (ad 32)), (8, .ref (ad 33)), (9, .ref (ad 34)), (10, .ref (ad 35)), (11, .ref (ad 36)), (12, .int (nI d)), (13, .int (nI n)), (14, .int (nI mB)), (15, .int (nI nn)), (16, .int (nI t)), (20, .int (nI p9)), (21, .int (nI mn)), (22, .int (nI c9)), (23, .ref (ad (50 + i9))), (24, .int (nI sm)), (25, .int (nI i9)), (27, .int (nI k))]) hx hb dL_law_1204 hl (by decide) rfl (fun ls hl => ?_)
            refine lv_iinc (v := nI (k + 1)) (lv' := [(27, .int (nI (k + 1))), (26, .int (nI (((((((numT i9 0).length + 1 + (lnsT (lnN st bd i9) k).length) + (numT ((k + 1)) (3)).length) + 1) + 1) + (numT ((qN st i9 k)) (0)).length) + 1))), (30, .int (nI (xN9 st i9 k))), (29, .int (nI ((qN st i9 k) * (pN st i9 k)))), (28, .int (nI ((9 * i9) + (3 * k)))), (0, .ref b), (1, .ref (ad 0)), (2, .int (nI bd)), (3, .int (nI at9)), (6, .ref (ad 31)), (7, .ref (ad 32)), (8, .ref (ad 33)), (9, .ref (ad 34)), (10, .ref (ad 35)), (11, .ref (ad 36)), (12, .int (nI d)), (13, .int (nI n)), (14, .int (nI mB)), (15, .int (nI nn)), (16, .int (nI t)), (20, .int (nI p9)), (21, .int (nI mn)), (22, .int (nI c9)), (23, .ref (ad (50 + i9))), (24, .int (nI sm)), (25, .int (nI i9))]) hx hb dL_law_1206 hl (k := 25) rfl (nI_add _ _) (by decide) rfl (fun ls hl => ?_)
            refine lv_goto (tgt := 1038) hx hb dL_law_1209 (by decide) ?_
            have hpos : (((((((numT i9 0).length + 1 + (lnsT (lnN st bd i9) k).length) + (numT ((k + 1)) (3)).length) + 1) + 1) + (numT ((qN st i9 k)) (0)).length) + 1) = (numT i9 0).length + 1 + (lnsT (lnN st bd i9) (k + 1)).length := by
              rw [show lnsT (lnN st bd i9) (k + 1) = lnsT (lnN st bd i9) k ++ lnT bd k (kN st i9 k) (amN st i9 k) (xN9 st i9 k) (qN st i9 k) from rfl]; unfold lnT; rw [if_neg (show ¬ xN9 st i9 k + bd < amN st i9 k from Nat.not_lt.mpr c1130)]; simp only [List.length_append, List.length_cons, List.length_nil]; omega
            rw [hpos] at hl
            refine W.widen (k := 1401 + 4000 * t + 172 * (k + 1)) (n := 12000 + 40000 * t + 1032 * (k + 1)) (by omega) (by omega) ?_
            exact ih1038 u61 (k + 1) hu61 (by omega) (by omega) H locs ls h (lv_sub hl [5, 6, 7, 8, 9, 10, 11, 12, 13, 14, 15, 16, 17, 18, 19, 20, 21, 22, 23, 24, 25, 1, 0] rfl)
          · rw [if_pos (show xN9 st i9 k + bd < amN st i9 k from c1130)] at t2
            obtain ⟨t3, t4⟩ := At9_app t2
            obtain ⟨t5, t6⟩ := At9_cons t3
            rw [List.length_cons] at t4
            have t7 := (At9_cons t4).1
            refine lv_aload_n hx hb dL_law_1133 rfl (lv_at hl 5 rfl) ?_
            refine lv_iload hx hb dL_law_1134 (lv_at hl 24 rfl) ?_
            refine lv_aload_n hx hb dL_law_1136 rfl (lv_at hl 5 rfl) ?_
            refine lv_iload hx hb dL_law_1137 (lv_at hl 24 rfl) ?_
            refine lv_iload hx hb dL_law_1139 (lv_at hl 0 rfl) ?_
            refine lv_bipush (v := nI 65) hx hb dL_law_1141 (by decide) ?_
            refine ca_L_93 C h (c_L_sign l D cy ad Ls u53 hl0 (WOK_K hWOK hu53) ((((numT i9 0).length + 1 + (lnsT (lnN st bd i9) k).length) + (numT ((k + 1)) (3)).length)) (by omega) 65 t5) (by decide) ⟨by show _ ≤ 754712; omega, by show _ ≤ 6837489; omega⟩ hl.1 (Nat.le_of_ble_eq_true rfl) dL_law_1143 (fun r64 u63 H locs hp h => ?_)
            obtain ⟨er, hu⟩ := hp; have hu63 := WK_tr hu53 hu; clear hu; refine x_topi er ?_; clear er r64
            refine lv_iconst (v := nI 0) hx hb dL_law_1146 (by decide) ?_
            refine lv_aload hx hb dL_law_1147 (lv_at hl 10 rfl) ?_
            refine lv_iload hx hb dL_law_1149 (lv_at hl 3 rfl) ?_
            refine x_ald C h (hR9 33 (by decide) (by decide)) (n := 64) rfl ((9 * i9) + (3 * k)) (by omega) (by decide) rfl dL_law_1151 ?_
            refine x_topi (y := nI (kN st i9 k)) (by rw [hu63.2.2.2.1 33 (by decide)]; exact k11) ?_
            refine ca_L_89 C h (c_L_number l D cy ad Ls u63 hl0 (WOK_K hWOK hu63) (((((numT i9 0).length + 1 + (lnsT (lnN st bd i9) k).length) + (numT ((k + 1)) (3)).length) + 1)) (by omega) (0) ((kN st i9 k)) (by omega) (by omega) t6) (by decide) ⟨by show _ ≤ 754712; omega, by show _ ≤ 6837489; omega⟩ hl.1 (Nat.le_of_ble_eq_true rfl) dL_law_1152 (fun r66 u65 H locs hp h => ?_)
            obtain ⟨er, hu⟩ := hp; have hu65 := WK_tr hu63 hu; clear hu; refine x_topi er ?_; clear er r66
            refine lv_istore (lv' := [(26, .int (nI (((((numT i9 0).length + 1 + (lnsT (lnN st bd i9) k).length) + (numT ((k + 1)) (3)).length) + 1) + (numT ((kN st i9 k)) (0)).length))), (30, .int (nI (xN9 st i9 k))), (29, .int (nI ((qN st i9 k) * (pN st i9 k)))), (28, .int (nI ((9 * i9) + (3 * k)))), (0, .ref b), (1, .ref (ad 0)), (2, .int (nI bd)), (3, .int (nI at9)), (6, .ref (ad 31)), (7, .ref (ad 32)), (8, .ref (ad 33)), (9, .ref (ad 34)), (10, .ref (ad 35)), (11, .ref (ad 36)), (12, .int (nI d)), (13, .int (nI n)), (14, .int (nI mB)), (15, .int (nI nn)), (16, .int (nI t)), (20, .int (nI p9)), (21, .int (nI mn)), (22, .int (nI c9)), (23, .ref (ad (50 + i9))), (24, .int (nI sm)), (25, .int (nI i9)), (27, .int (nI k))]) hx hb dL_law_1155 hl (by decide) rfl (fun ls hl => ?_)
            refine lv_goto (tgt := 1194) hx hb dL_law_1157 (by decide) ?_
            refine lv_aload_n hx hb dL_law_1194 rfl (lv_at hl 5 rfl) ?_
            refine lv_iload hx hb dL_law_1195 (lv_at hl 24 rfl) ?_
            refine lv_iload hx hb dL_law_1197 (lv_at hl 0 rfl) ?_
            refine lv_bipush (v := nI 59) hx hb dL_law_1199 (by decide) ?_
            refine ca_L_93 C h (c_L_sign l D cy ad Ls u65 hl0 (WOK_K hWOK hu65) ((((((numT i9 0).length + 1 + (lnsT (lnN st bd i9) k).length) + (numT ((k + 1)) (3)).length) + 1) + (numT ((kN st i9 k)) (0)).length)) (by omega) 59 (by rw [show (((((numT i9 0).length + 1 + (lnsT (lnN st bd i9) k).length) + (numT ((k + 1)) (3)).length) + 1) + (numT ((kN st i9 k)) (0)).length) = (numT i9 0).length + 1 + (lnsT (lnN st bd i9) k).length + (numT (k + 1) 3).length + ((numT (kN st i9 k) 0).length + 1) by omega]; exact t7)) (by decide) ⟨by show _ ≤ 754712; omega, by show _ ≤ 6837489; omega⟩ hl.1 (Nat.le_of_ble_eq_true rfl) dL_law_1201 (fun r68 u67 H locs hp h => ?_)
            obtain ⟨er, hu⟩ := hp; have hu67 := WK_tr hu65 hu; clear hu; refine x_topi er ?_; clear er r68
            refine lv_istore (lv' := [(26, .int (nI ((((((numT i9 0).length + 1 + (lnsT (lnN st bd i9) k).length) + (numT ((k + 1)) (3)).length) + 1) + (numT ((kN st i9 k)) (0)).length) + 1))), (30, .int (nI (xN9 st i9 k))), (29, .int (nI ((qN st i9 k) * (pN st i9 k)))), (28, .int (nI ((9 * i9) + (3 * k)))), (0, .ref b), (1, .ref (ad 0)), (2, .int (nI bd)), (3, .int (nI at9)), (6, .ref (ad 31)), (7, .ref (ad 32)), (8, .ref (ad 33)), (9, .ref (ad 34)), (10, .ref (ad 35)), (11, .ref (ad 36)), (12, .int (nI d)), (13, .int (nI n)), (14, .int (nI mB)), (15, .int (nI nn)), (16, .int (nI t)), (20, .int (nI p9)), (21, .int (nI mn)), (22, .int (nI c9)), (23, .ref (ad (50 + i9))), (24, .int (nI sm)), (25, .int (nI i9)), (27, .int (nI k))]) hx hb dL_law_1204 hl (by decide) rfl (fun ls hl => ?_)
            refine lv_iinc (v := nI (k + 1)) (lv' := [(27, .int (nI (k + 1))), (26, .int (nI ((((((numT i9 0).length + 1 + (lnsT (lnN st bd i9) k).length) + (numT ((k + 1)) (3)).length) + 1) + (numT ((kN st i9 k)) (0)).length) + 1))), (30, .int (nI (xN9 st i9 k))), (29, .int (nI ((qN st i9 k) * (pN st i9 k)))), (28, .int (nI ((9 * i9) + (3 * k)))), (0, .ref b), (1, .ref (ad 0)), (2, .int (nI bd)), (3, .int (nI at9)), (6, .ref (ad 31)), (7, .ref (ad 32)), (8, .ref (ad 33)), (9, .ref (ad 34)), (10, .ref (ad 35)), (11, .ref (ad 36)), (12, .int (nI d)), (13, .int (nI n)), (14, .int (nI mB)), (15, .int (nI nn)), (16, .int (nI t)), (20, .int (nI p9)), (21, .int (nI mn)), (22, .int (nI c9)), (23, .ref (ad (50 + i9))), (24, .int (nI sm)), (25, .int (nI i9))]) hx hb dL_law_1206 hl (k := 25) rfl (nI_add _ _) (by decide) rfl (fun ls hl => ?_)
            refine lv_goto (tgt := 1038) hx hb dL_law_1209 (by decide) ?_
            have hpos : ((((((numT i9 0).length + 1 + (lnsT (lnN st bd i9) k).length) + (numT ((k + 1)) (3)).length) + 1) + (numT ((kN st i9 k)) (0)).length) + 1) = (numT i9 0).length + 1 + (lnsT (lnN st bd i9) (k + 1)).length := by
              rw [show lnsT (lnN st bd i9) (k + 1) = lnsT (lnN st bd i9) k ++ lnT bd k (kN st i9 k) (amN st i9 k) (xN9 st i9 k) (qN st i9 k) from rfl]; unfold lnT; rw [if_pos (show xN9 st i9 k + bd < amN st i9 k from c1130)]; simp only [List.length_append, List.length_cons, List.length_nil]; omega
            rw [hpos] at hl
            refine W.widen (k := 1401 + 4000 * t + 172 * (k + 1)) (n := 12000 + 40000 * t + 1032 * (k + 1)) (by omega) (by omega) ?_
            exact ih1038 u67 (k + 1) hu67 (by omega) (by omega) H locs ls h (lv_sub hl [5, 6, 7, 8, 9, 10, 11, 12, 13, 14, 15, 16, 17, 18, 19, 20, 21, 22, 23, 24, 25, 1, 0] rfl)
  have hp0 : ((0 + (numT (i9) (0)).length) + 1) = (numT i9 0).length + 1 + (lnsT (lnN st bd i9) 0).length := by rw [show lnsT (lnN st bd i9) 0 = [] from rfl, List.length_nil]; omega
  rw [hp0] at hl
  refine W.widen (k := 1401 + 4000 * t + 172 * 0) (n := 12000 + 40000 * t + 1032 * 0) (by omega) (by omega) ?_
  exact L1038 (mn + 1) u17 0 hu17 (by omega) (by omega) H locs ls h (lv_sub hl [2, 3, 4, 5, 6, 7, 8, 9, 10, 11, 12, 13, 14, 15, 16, 17, 18, 19, 20, 21, 22, 1, 0] rfl)
