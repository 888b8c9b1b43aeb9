set_option maxHeartbeats 4000000 in
set_option maxRecDepth 100000 in
theorem br_settle {p : Program} {e : Env} {s : State} {m : MethodId} {below : List Frame} {meth : Method} {c : Code} (l : Launch) (hl0 : l.stackTraces = false) {D : va_G} {cy : Nat → ClassId} {b L : Nat} {xs : Nat → Int32} (C : xCx p m c code 31 s #[Value.ref b] RL D cy) (hE : xScr b L xs (lwA s) s s.heap) (hL9 : L ≤ 260) {t : Nat} (ht40 : t < 40) {ad : Nat → Nat} {Ls : List Nat} {st : XS} {H : Heap} {locs : List Loc} {ls : Array Slot} {bd at9 d n mB nn p9 : Nat} {ln : Nat → Nat} (h : xH D cy ad Ls (lwA s) s st H locs) (hI : PI Ls st bd d n mB nn ln) (hat : at9 ≤ 3 + 5 * t) (hd : d ≤ 4 * t) (hp2 : p9 < 2) (hl : lv_has ls 31 [(20, .int (nI p9)), (0, .ref b), (1, .ref (ad 0)), (2, .int (nI bd)), (3, .int (nI at9)), (6, .ref (ad 31)), (7, .ref (ad 32)), (8, .ref (ad 33)), (9, .ref (ad 34)), (10, .ref (ad 35)), (11, .ref (ad 36)), (12, .int (nI d)), (13, .int (nI n)), (14, .int (nI mB)), (15, .int (nI nn)), (16, .int (nI t))]) (K : K78 p l e s m below meth c D cy b bd t) : W p l e room_1 s m #[Value.ref b] below meth c H locs (1000 + 4000 * t) (10000 + 40000 * t) (lw_Z below #[Value.ref b] s) (F0 m 1318 ls []) := by
  have hx := C.1
  have hb := C.2.1
  have hI9 := hI
  obtain ⟨hA9, hPR, hPM, hPD, hPB, hPN, hPF⟩ := hI
  have hL := hA9.1
  have hR9 := hA9.2.1
  have hm7 : mB ≤ 7 := hA9.2.2.2.2.2.2.2.2
  have hn15 := hPR.1
  have hRD := RD_of hA9 hPD hPB
  have hN40 := hPN.1
  refine lv_iconst (v := nI 0) hx hb dL_law_1318 (by decide) ?_
  refine lv_istore (lv' := [(21, .int (nI 0)), (20, .int (nI p9)), (0, .ref b), (1, .ref (ad 0)), (2, .int (nI bd)), (3, .int (nI at9)), (6, .ref (ad 31)), (7, .ref (ad 32)), (8, .ref (ad 33)), (9, .ref (ad 34)), (10, .ref (ad 35)), (11, .ref (ad 36)), (12, .int (nI d)), (13, .int (nI n)), (14, .int (nI mB)), (15, .int (nI nn)), (16, .int (nI t))]) hx hb dL_law_1319 hl (by decide) rfl (fun ls hl => ?_)
  refine lv_iconst (v := nI 0) hx hb dL_law_1321 (by decide) ?_
  refine lv_istore (lv' := [(22, .int (nI 0)), (21, .int (nI 0)), (20, .int (nI p9)), (0, .ref b), (1, .ref (ad 0)), (2, .int (nI bd)), (3, .int (nI at9)), (6, .ref (ad 31)), (7, .ref (ad 32)), (8, .ref (ad 33)), (9, .ref (ad 34)), (10, .ref (ad 35)), (11, .ref (ad 36)), (12, .int (nI d)), (13, .int (nI n)), (14, .int (nI mB)), (15, .int (nI nn)), (16, .int (nI t))]) hx hb dL_law_1322 hl (by decide) rfl (fun ls hl => ?_)
  have L1324 : ∀ (N1324 : Nat) (v : XS) (i : Nat) (f10 : Nat → Int32) (hv : v = sa (sa st 10 f10) 32 (stR st n ln p9 nn i)) (hi : i ≤ mB) (hN : mB - i < N1324) (H : Heap) (locs : List Loc) (ls : Array Slot), xH D cy ad Ls (lwA s) s v H locs → lv_has ls 31 [(0, .ref b), (1, .ref (ad 0)), (2, .int (nI bd)), (3, .int (nI at9)), (6, .ref (ad 31)), (7, .ref (ad 32)), (8, .ref (ad 33)), (9, .ref (ad 34)), (10, .ref (ad 35)), (11, .ref (ad 36)), (12, .int (nI d)), (13, .int (nI n)), (14, .int (nI mB)), (15, .int (nI nn)), (16, .int (nI t)), (20, .int (nI p9)), (21, .int (nI (stM st n ln p9 i))), (22, .int (nI i))] → W p l e room_1 s m #[Value.ref b] below meth c H locs (1000 + 4000 * t + 6 * i) (10000 + 40000 * t + 32 * i) (lw_Z below #[Value.ref b] s) (F0 m 1324 ls []) := by
    intro N1324
    induction N1324 with
    | zero => intro v i f10 hv hi hN; omega
    | succ N1324 ih1324 =>
      intro v i f10 hv hi hN H locs ls h hl
      have hMl := stM_le st n ln p9 i
      refine lv_iload hx hb dL_law_1324 (lv_at hl 17 rfl) ?_
      refine lv_iload hx hb dL_law_1326 (lv_at hl 12 rfl) ?_
      refine x_icmpN_ge (tgt := 1425) hx hb dL_law_1328 (by decide) (by omega) (by omega) (fun c1328 => ?_) (fun c1328 => ?_)
      · refine lv_iload hx hb dL_law_1425 (lv_at hl 13 rfl) ?_
        refine lv_iload hx hb dL_law_1427 (lv_at hl 16 rfl) ?_
        refine x_addN hx hb dL_law_1429 ?_
        refine lv_bipush (v := nI 40) hx hb dL_law_1430 (by decide) ?_
        refine x_icmpN_le (tgt := 1443) hx hb dL_law_1432 (by decide) (by omega) (by omega) (fun c1432 => ?_) (fun c1432 => ?_)
        · refine lv_iload hx hb dL_law_1443 (lv_at hl 16 rfl) ?_
          rw [show i = mB by omega] at hv c1432 ⊢
          refine x_topi (y := nI (min (nn + stM st n ln p9 mB) 40 - nn)) (by rw [show min (nn + stM st n ln p9 mB) 40 - nn = stM st n ln p9 mB by omega]) ?_
          refine lv_istore (lv' := [(21, .int (nI (min (nn + stM st n ln p9 mB) 40 - nn))), (0, .ref b), (1, .ref (ad 0)), (2, .int (nI bd)), (3, .int (nI at9)), (6, .ref (ad 31)), (7, .ref (ad 32)), (8, .ref (ad 33)), (9, .ref (ad 34)), (10, .ref (ad 35)), (11, .ref (ad 36)), (12, .int (nI d)), (13, .int (nI n)), (14, .int (nI mB)), (15, .int (nI nn)), (16, .int (nI t)), (20, .int (nI p9)), (22, .int (nI i))]) hx hb dL_law_1445 hl (by decide) rfl (fun ls hl => ?_)
          refine lv_aload_n hx hb dL_law_1447 rfl (lv_at hl 2 rfl) ?_
          refine lv_iload hx hb dL_law_1448 (lv_at hl 16 rfl) ?_
          have hRDv : RD Ls mB (lnX mB 0 ln) v := RD_K hRD (fun _ _ => by rw [hv]; rfl) (by rw [hv]; rfl)
          refine cx_L_107 C h (hL 0 rfl) rfl (c_X7_settle l hl0 D cy ad Ls v hL n (by omega) (by rw [hv]; exact hPR.2.1) mB hRDv.2.1 hRDv.2.2.1 hRDv.2.2.2.1 (lnX mB 0 ln) hRDv.2.2.2.2 nn hPN.1 (by rw [hv]; exact hPN.2) (nI p9)) (by decide) ⟨by show _ ≤ 754712; omega, by show _ ≤ 6837489; omega⟩ hl.1 (Nat.le_of_ble_eq_true rfl) dL_law_1450 (x_noX (kPlace_0 (by omega))) (fun r2 u1 H locs hp h => ?_)
          obtain ⟨-, er, hu⟩ := hp
          have e2 : (stA n mB (lnX mB 0 ln) (nI p9) (v, nn) 30).2 = min (nn + stM st n ln p9 mB) 40 := by rw [stA_30 hm7]; exact (st_both (p := p9) hm7 hI9.2 (fun f k => by rw [hv]; rfl) (fun k q1 q2 => by rw [hv, ga_sa, if_neg q2, ga_sa, if_neg q1]) (by omega) mB (Nat.le_refl _)).1
          refine x_topi (y := nI (min (nn + stM st n ln p9 mB) 40 - nn)) (by rw [er, e2, nI_sub (by have := hPN.1; omega)]) ?_; clear er r2
          have hPu := PI_settle (p := p9) hI9 (by omega) hv hu
          refine lv_iload hx hb dL_law_1453 (lv_at hl 0 rfl) ?_
          refine x_icmp_eq_t (tgt := 1460) hx hb dL_law_1455 (by decide) rfl ?_
          refine lv_iload hx hb dL_law_1460 (lv_at hl 14 rfl) ?_
          refine lv_iload hx hb dL_law_1462 (lv_at hl 0 rfl) ?_
          refine x_addN hx hb dL_law_1464 ?_
          refine x_topi (y := nI (min (nn + stM st n ln p9 mB) 40)) (by rw [show nn + (min (nn + stM st n ln p9 mB) 40 - nn) = min (nn + stM st n ln p9 mB) 40 by have := hPN.1; omega]) ?_
          refine lv_istore (lv' := [(15, .int (nI (min (nn + stM st n ln p9 mB) 40))), (21, .int (nI (min (nn + stM st n ln p9 mB) 40 - nn))), (0, .ref b), (1, .ref (ad 0)), (2, .int (nI bd)), (3, .int (nI at9)), (6, .ref (ad 31)), (7, .ref (ad 32)), (8, .ref (ad 33)), (9, .ref (ad 34)), (10, .ref (ad 35)), (11, .ref (ad 36)), (12, .int (nI d)), (13, .int (nI n)), (14, .int (nI mB)), (16, .int (nI t)), (20, .int (nI p9)), (22, .int (nI i))]) hx hb dL_law_1465 hl (by decide) rfl (fun ls hl => ?_)
          refine lv_aload_n hx hb dL_law_1467 rfl (lv_at hl 3 rfl) ?_
          refine cl_L_110 C h (hL 0 rfl) rfl (c_X7_notes l D cy ad Ls u1 hL (min (nn + stM st n ln p9 mB) 40) hPu.2.2.2.2.2.1.2) (by decide) ⟨by show _ ≤ 754712; omega, by show _ ≤ 6837489; omega⟩ hl.1 (Nat.le_of_ble_eq_true rfl) dL_law_1468 (fun r4 u3 H locs hp h => ?_)
          obtain ⟨er4, eu3⟩ := hp; rw [eu3] at h; clear eu3 u3; refine x_topi er4 ?_; clear er4 r4
          refine lv_iload hx hb dL_law_1471 (lv_at hl 0 rfl) ?_
          refine x_icmp_eq_t (tgt := 1478) hx hb dL_law_1473 (by decide) rfl ?_
          refine W.widen (k := 3000 + 4000 * t) (n := 40000 + 40000 * t) (by omega) (by omega) ?_
          exact K p9 ad Ls u1 H locs ls at9 d n mB (min (nn + stM st n ln p9 mB) 40) ln hp2 (by omega) (by omega) h hPu (lv_sub hl [16, 2, 3, 4, 5, 6, 7, 8, 9, 10, 11, 12, 13, 14, 0, 15] rfl)
        · refine lv_bipush (v := nI 40) hx hb dL_law_1435 (by decide) ?_
          refine lv_iload hx hb dL_law_1437 (lv_at hl 13 rfl) ?_
          refine lv_isub hx hb dL_law_1439 ?_
          rw [show i = mB by omega] at hv c1432
          refine x_topi (y := nI (min (nn + stM st n ln p9 mB) 40 - nn)) (by rw [nI_sub hPN.1, show min (nn + stM st n ln p9 mB) 40 = 40 by omega]) ?_
          refine lv_goto (tgt := 1445) hx hb dL_law_1440 (by decide) ?_
          refine lv_istore (lv' := [(21, .int (nI (min (nn + stM st n ln p9 mB) 40 - nn))), (0, .ref b), (1, .ref (ad 0)), (2, .int (nI bd)), (3, .int (nI at9)), (6, .ref (ad 31)), (7, .ref (ad 32)), (8, .ref (ad 33)), (9, .ref (ad 34)), (10, .ref (ad 35)), (11, .ref (ad 36)), (12, .int (nI d)), (13, .int (nI n)), (14, .int (nI mB)), (15, .int (nI nn)), (16, .int (nI t)), (20, .int (nI p9)), (22, .int (nI i))]) hx hb dL_law_1445 hl (by decide) rfl (fun ls hl => ?_)
          refine lv_aload_n hx hb dL_law_1447 rfl (lv_at hl 2 rfl) ?_
          refine lv_iload hx hb dL_law_1448 (lv_at hl 16 rfl) ?_
          have hRDv : RD Ls mB (lnX mB 0 ln) v := RD_K hRD (fun _ _ => by rw [hv]; rfl) (by rw [hv]; rfl)
          refine cx_L_107 C h (hL 0 rfl) rfl (c_X7_settle l hl0 D cy ad Ls v hL n (by omega) (by rw [hv]; exact hPR.2.1) mB hRDv.2.1 hRDv.2.2.1 hRDv.2.2.2.1 (lnX mB 0 ln) hRDv.2.2.2.2 nn hPN.1 (by rw [hv]; exact hPN.2) (nI p9)) (by decide) ⟨by show _ ≤ 754712; omega, by show _ ≤ 6837489; omega⟩ hl.1 (Nat.le_of_ble_eq_true rfl) dL_law_1450 (x_noX (kPlace_0 (by omega))) (fun r6 u5 H locs hp h => ?_)
          obtain ⟨-, er, hu⟩ := hp
          have e2 : (stA n mB (lnX mB 0 ln) (nI p9) (v, nn) 30).2 = min (nn + stM st n ln p9 mB) 40 := by rw [stA_30 hm7]; exact (st_both (p := p9) hm7 hI9.2 (fun f k => by rw [hv]; rfl) (fun k q1 q2 => by rw [hv, ga_sa, if_neg q2, ga_sa, if_neg q1]) (by omega) mB (Nat.le_refl _)).1
          refine x_topi (y := nI (min (nn + stM st n ln p9 mB) 40 - nn)) (by rw [er, e2, nI_sub (by have := hPN.1; omega)]) ?_; clear er r6
          have hPu := PI_settle (p := p9) hI9 (by omega) hv hu
          refine lv_iload hx hb dL_law_1453 (lv_at hl 0 rfl) ?_
          refine x_icmp_eq_t (tgt := 1460) hx hb dL_law_1455 (by decide) rfl ?_
          refine lv_iload hx hb dL_law_1460 (lv_at hl 14 rfl) ?_
          refine lv_iload hx hb dL_law_1462 (lv_at hl 0 rfl) ?_
          refine x_addN hx hb dL_law_1464 ?_
          refine x_topi (y := nI (min (nn + stM st n ln p9 mB) 40)) (by rw [show nn + (min (nn + stM st n ln p9 mB) 40 - nn) = min (nn + stM st n ln p9 mB) 40 by have := hPN.1; omega]) ?_
          refine lv_istore (lv' := [(15, .int (nI (min (nn + stM st n ln p9 mB) 40))), (21, .int (nI (min (nn + stM st n ln p9 mB) 40 - nn))), (0, .ref b), (1, .ref (ad 0)), (2, .int (nI bd)), (3, .int (nI at9)), (6, .ref (ad 31)), (7, .ref (ad 32)), (8, .ref (ad 33)), (9, .ref (ad 34)), (10, .ref (ad 35)), (11, .ref (ad 36)), (12, .int (nI d)), (13, .int (nI n)), (14, .int (nI mB)), (16, .int (nI t)), (20, .int (nI p9)), (22, .int (nI i))]) hx hb dL_law_1465 hl (by decide) rfl (fun ls hl => ?_)
          refine lv_aload_n hx hb dL_law_1467 rfl (lv_at hl 3 rfl) ?_
          refine cl_L_110 C h (hL 0 rfl) rfl (c_X7_notes l D cy ad Ls u5 hL (min (nn + stM st n ln p9 mB) 40) hPu.2.2.2.2.2.1.2) (by decide) ⟨by show _ ≤ 754712; omega, by show _ ≤ 6837489; omega⟩ hl.1 (Nat.le_of_ble_eq_true rfl) dL_law_1468 (fun r8 u7 H locs hp h => ?_)
          obtain ⟨er8, eu7⟩ := hp; rw [eu7] at h; clear eu7 u7; refine x_topi er8 ?_; clear er8 r8
          refine lv_iload hx hb dL_law_1471 (lv_at hl 0 rfl) ?_
          refine x_icmp_eq_t (tgt := 1478) hx hb dL_law_1473 (by decide) rfl ?_
          refine W.widen (k := 3000 + 4000 * t) (n := 40000 + 40000 * t) (by omega) (by omega) ?_
          exact K p9 ad Ls u5 H locs ls at9 d n mB (min (nn + stM st n ln p9 mB) 40) ln hp2 (by omega) (by omega) h hPu (lv_sub hl [16, 2, 3, 4, 5, 6, 7, 8, 9, 10, 11, 12, 13, 14, 0, 15] rfl)
      · have hB := hPB.2 i (by omega)
        have h32 : ∀ k, k < 7 → ga v 32 (7 * i + k) = ga st 32 (7 * i + k) := fun k hk => by rw [hv, ga_self]; exact stR_o i (fun b hb => by omega)
        refine lv_aload hx hb dL_law_1331 (lv_at hl 4 rfl) ?_
        refine lv_iload hx hb dL_law_1333 (lv_at hl 11 rfl) ?_
        refine lv_aload hx hb dL_law_1335 (lv_at hl 5 rfl) ?_
        refine lv_aload hx hb dL_law_1337 (lv_at hl 6 rfl) ?_
        refine lv_iload hx hb dL_law_1339 (lv_at hl 17 rfl) ?_
        refine ca_L_100 C h (c_L_now l D cy ad Ls v (hR9 31 (by decide) (by decide)) (hR9 32 (by decide) (by decide)) (hR9 33 (by decide) (by decide)) (hA9.2.2.2.2.2.2.1 40 (by decide) (by decide)) (hA9.2.2.2.2.2.2.1 41 (by decide) (by decide)) (by rw [hv]; exact hA9.2.2.2.2.2.1) n hn15 (by rw [hv]; exact hPR.2.2) i (by omega) (ln i) hB.2.1 ((h32 2 (by decide)).trans hB.2.2.2.1) (ga st 32 (7 * i + 4)) (h32 4 (by decide)) (ga st 32 (7 * i + 3)) (ga st 32 (7 * i + 1)) (h32 3 (by decide)) (h32 1 (by decide)) (kN st i) (fun k hk => by have q := kN_of (hB.2.2.2.2.2.2.2.2.2.2.2.2 k hk); exact ⟨by omega, by rw [hv]; exact q.2.1⟩)) (by decide) ⟨by show _ ≤ 754712; omega, by show _ ≤ 6837489; omega⟩ hl.1 (Nat.le_of_ble_eq_true rfl) dL_law_1341 (fun r1 u1 H locs hp h => ?_)
        obtain ⟨er, eu⟩ := hp; rw [eu] at h; clear eu u1; refine x_topi (y := itN st n ln i) (by rw [er, hv]; rfl) ?_; clear er r1
        refine lv_istore (lv' := [(23, .int (itN st n ln i)), (0, .ref b), (1, .ref (ad 0)), (2, .int (nI bd)), (3, .int (nI at9)), (6, .ref (ad 31)), (7, .ref (ad 32)), (8, .ref (ad 33)), (9, .ref (ad 34)), (10, .ref (ad 35)), (11, .ref (ad 36)), (12, .int (nI d)), (13, .int (nI n)), (14, .int (nI mB)), (15, .int (nI nn)), (16, .int (nI t)), (20, .int (nI p9)), (21, .int (nI (stM st n ln p9 i))), (22, .int (nI i))]) hx hb dL_law_1344 hl (by decide) rfl (fun ls hl => ?_)
        refine lv_aload_n hx hb dL_law_1346 rfl (lv_at hl 2 rfl) ?_
        refine lv_iload hx hb dL_law_1347 (lv_at hl 18 rfl) ?_
        have hRDv : RD Ls mB (lnX mB 0 ln) v := RD_K hRD (fun _ _ => by rw [hv]; rfl) (by rw [hv]; rfl)
        refine cx_L_104 C h (hL 0 rfl) rfl (c_X7_taxAnew l hl0 D cy ad Ls v hL n (by omega) (by rw [hv]; exact hPR.2.1) mB hRDv.2.1 hRDv.2.2.1 hRDv.2.2.2.1 (lnX mB 0 ln) hRDv.2.2.2.2 (nI i)) (by decide) ⟨by show _ ≤ 754712; omega, by show _ ≤ 6837489; omega⟩ hl.1 (Nat.le_of_ble_eq_true rfl) dL_law_1349 (x_noX (kBill_0 (by omega) (by omega))) (fun r10 u9 H locs hp h => ?_)
        obtain ⟨-, b1, hb1, eb, er, hu⟩ := hp
        obtain rfl : i = b1 := (nI_eq (by omega) (by omega)).mp eb
        clear eb hb1
        refine x_topi (y := itN st n ln i) (by rw [er, lnX_lt (by omega), ← tk_it hPR hB]; exact tkN_K (fun f _ => by rw [hv]; rfl) (fun j j1 j2 => by rw [hv, ga_sa, if_neg (by omega), ga_sa, if_neg (by omega)]) (fun k k1 k2 => by rw [hv, ga_sa, if_neg (by omega), ga_sa, if_neg (by omega)])) ?_; clear er r10
        obtain ⟨f11, hv9⟩ : ∃ f11, u9 = sa (sa st 10 f11) 32 (stR st n ln p9 nn i) := ⟨_, by rw [hu, tkS, hv, sa_cm (by decide), sa_sa]⟩
        clear hu
        have h32u : ∀ k, k < 7 → ga u9 32 (7 * i + k) = ga st 32 (7 * i + k) := fun k hk => by rw [hv9, ga_self]; exact stR_o i (fun b hb => by omega)
        refine lv_iload hx hb dL_law_1352 (lv_at hl 0 rfl) ?_
        refine x_icmp_eq_t (tgt := 1359) hx hb dL_law_1354 (by decide) rfl ?_
        refine lv_aload hx hb dL_law_1359 (lv_at hl 6 rfl) ?_
        refine lv_bipush (v := nI 7) hx hb dL_law_1361 (by decide) ?_
        refine lv_iload hx hb dL_law_1363 (lv_at hl 18 rfl) ?_
        refine x_mulN hx hb dL_law_1365 ?_
        refine lv_iconst (v := nI 3) hx hb dL_law_1366 (by decide) ?_
        refine x_addN hx hb dL_law_1367 ?_
        refine x_ald C h (hR9 32 (by decide) (by decide)) (n := 64) rfl ((7 * i) + 3) (by omega) (by decide) rfl dL_law_1368 ?_
        refine x_topi (y := ga st 32 (7 * i + 3)) (h32u 3 (by decide)) ?_
        refine lv_iload hx hb dL_law_1369 (lv_at hl 16 rfl) ?_
        refine lv_icmp_ne (tgt := 1419) hx hb dL_law_1371 (by decide) (fun c1371 => ?_) (fun c1371 => ?_)
        · refine lv_iinc (v := nI (i + 1)) (lv' := [(22, .int (nI (i + 1))), (23, .int (itN st n ln i)), (0, .ref b), (1, .ref (ad 0)), (2, .int (nI bd)), (3, .int (nI at9)), (6, .ref (ad 31)), (7, .ref (ad 32)), (8, .ref (ad 33)), (9, .ref (ad 34)), (10, .ref (ad 35)), (11, .ref (ad 36)), (12, .int (nI d)), (13, .int (nI n)), (14, .int (nI mB)), (15, .int (nI nn)), (16, .int (nI t)), (20, .int (nI p9)), (21, .int (nI (stM st n ln p9 i)))]) hx hb dL_law_1419 hl (k := 18) rfl (nI_add _ _) (by decide) rfl (fun ls hl => ?_)
          refine lv_goto (tgt := 1324) hx hb dL_law_1422 (by decide) ?_
          have hcS : ¬ stC st n ln p9 i = true := fun q => c1371 (stC_t.mp q).1
          have eM : stM st n ln p9 (i + 1) = stM st n ln p9 i := by rw [stM, if_neg hcS]
          rw [← eM] at hl
          refine W.widen (k := 1000 + 4000 * t + 6 * (i + 1)) (n := 10000 + 40000 * t + 32 * (i + 1)) (by omega) (by omega) ?_
          exact ih1324 u9 (i + 1) f11 (by rw [stR, if_neg (fun q => hcS q.1)]; exact hv9) (by omega) (by omega) H locs ls h (lv_sub hl [2, 3, 4, 5, 6, 7, 8, 9, 10, 11, 12, 13, 14, 15, 16, 17, 18, 0] rfl)
        · refine lv_iload hx hb dL_law_1374 (lv_at hl 0 rfl) ?_
          refine lv_aload hx hb dL_law_1376 (lv_at hl 6 rfl) ?_
          refine lv_bipush (v := nI 7) hx hb dL_law_1378 (by decide) ?_
          refine lv_iload hx hb dL_law_1380 (lv_at hl 18 rfl) ?_
          refine x_mulN hx hb dL_law_1382 ?_
          refine lv_bipush (v := nI 6) hx hb dL_law_1383 (by decide) ?_
          refine x_addN hx hb dL_law_1385 ?_
          refine x_ald C h (hR9 32 (by decide) (by decide)) (n := 64) rfl ((7 * i) + 6) (by omega) (by decide) rfl dL_law_1386 ?_
          refine x_topi (y := ga st 32 (7 * i + 6)) (h32u 6 (by decide)) ?_
          refine lv_icmp_ne (tgt := 1393) hx hb dL_law_1387 (by decide) (fun c1387 => ?_) (fun c1387 => ?_)
          · refine lv_iinc (v := nI ((stM st n ln p9 i) + 1)) (lv' := [(21, .int (nI ((stM st n ln p9 i) + 1))), (23, .int (itN st n ln i)), (0, .ref b), (1, .ref (ad 0)), (2, .int (nI bd)), (3, .int (nI at9)), (6, .ref (ad 31)), (7, .ref (ad 32)), (8, .ref (ad 33)), (9, .ref (ad 34)), (10, .ref (ad 35)), (11, .ref (ad 36)), (12, .int (nI d)), (13, .int (nI n)), (14, .int (nI mB)), (15, .int (nI nn)), (16, .int (nI t)), (20, .int (nI p9)), (22, .int (nI i))]) hx hb dL_law_1393 hl (k := 17) rfl (nI_add _ _) (by decide) rfl (fun ls hl => ?_)
            refine lv_iload hx hb dL_law_1396 (lv_at hl 15 rfl) ?_
            refine lv_iload hx hb dL_law_1398 (lv_at hl 0 rfl) ?_
            refine x_addN hx hb dL_law_1400 ?_
            refine lv_bipush (v := nI 40) hx hb dL_law_1401 (by decide) ?_
            refine x_icmpN_gt (tgt := 1419) hx hb dL_law_1403 (by decide) (by omega) (by omega) (fun c1403 => ?_) (fun c1403 => ?_)
            · refine lv_iinc (v := nI (i + 1)) (lv' := [(22, .int (nI (i + 1))), (21, .int (nI ((stM st n ln p9 i) + 1))), (23, .int (itN st n ln i)), (0, .ref b), (1, .ref (ad 0)), (2, .int (nI bd)), (3, .int (nI at9)), (6, .ref (ad 31)), (7, .ref (ad 32)), (8, .ref (ad 33)), (9, .ref (ad 34)), (10, .ref (ad 35)), (11, .ref (ad 36)), (12, .int (nI d)), (13, .int (nI n)), (14, .int (nI mB)), (15, .int (nI nn)), (16, .int (nI t)), (20, .int (nI p9))]) hx hb dL_law_1419 hl (k := 18) rfl (nI_add _ _) (by decide) rfl (fun ls hl => ?_)
              refine lv_goto (tgt := 1324) hx hb dL_law_1422 (by decide) ?_
              have hcS : stC st n ln p9 i = true := stC_t.mpr ⟨c1371, c1387⟩
              have eM : stM st n ln p9 (i + 1) = stM st n ln p9 i + 1 := by rw [stM, if_pos hcS]
              rw [← eM] at hl
              refine W.widen (k := 1000 + 4000 * t + 6 * (i + 1)) (n := 10000 + 40000 * t + 32 * (i + 1)) (by omega) (by omega) ?_
              exact ih1324 u9 (i + 1) f11 (by rw [stR, if_neg (fun q => by omega)]; exact hv9) (by omega) (by omega) H locs ls h (lv_sub hl [3, 4, 5, 6, 7, 8, 9, 10, 11, 12, 13, 14, 15, 16, 17, 18, 1, 0] rfl)
            · refine lv_aload hx hb dL_law_1406 (lv_at hl 7 rfl) ?_
              refine lv_bipush (v := nI 7) hx hb dL_law_1408 (by decide) ?_
              refine lv_iload hx hb dL_law_1410 (lv_at hl 18 rfl) ?_
              refine x_mulN hx hb dL_law_1412 ?_
              refine lv_bipush (v := nI 6) hx hb dL_law_1413 (by decide) ?_
              refine x_addN hx hb dL_law_1415 ?_
              refine lv_iload hx hb dL_law_1416 (lv_at hl 1 rfl) ?_
              refine x_ast C h (hR9 32 (by decide) (by decide)) (n := 64) rfl ((7 * i) + 6) (by omega) (by decide) rfl dL_law_1418 (fun H locs u11 eu11 h => ?_)
              refine lv_iinc (v := nI (i + 1)) (lv' := [(22, .int (nI (i + 1))), (21, .int (nI ((stM st n ln p9 i) + 1))), (23, .int (itN st n ln i)), (0, .ref b), (1, .ref (ad 0)), (2, .int (nI bd)), (3, .int (nI at9)), (6, .ref (ad 31)), (7, .ref (ad 32)), (8, .ref (ad 33)), (9, .ref (ad 34)), (10, .ref (ad 35)), (11, .ref (ad 36)), (12, .int (nI d)), (13, .int (nI n)), (14, .int (nI mB)), (15, .int (nI nn)), (16, .int (nI t)), (20, .int (nI p9))]) hx hb dL_law_1419 hl (k := 18) rfl (nI_add _ _) (by decide) rfl (fun ls hl => ?_)
              refine lv_goto (tgt := 1324) hx hb dL_law_1422 (by decide) ?_
              have hcS : stC st n ln p9 i = true := stC_t.mpr ⟨c1371, c1387⟩
              have eM : stM st n ln p9 (i + 1) = stM st n ln p9 i + 1 := by rw [stM, if_pos hcS]
              rw [← eM] at hl
              refine W.widen (k := 1000 + 4000 * t + 6 * (i + 1)) (n := 10000 + 40000 * t + 32 * (i + 1)) (by omega) (by omega) ?_
              exact ih1324 u11 (i + 1) f11 (by rw [stR, if_pos ⟨hcS, by omega⟩, eu11, hv9, ga_self, sa_sa]) (by omega) (by omega) H locs ls h (lv_sub hl [3, 4, 5, 6, 7, 8, 9, 10, 11, 12, 13, 14, 15, 16, 17, 18, 1, 0] rfl)
          · refine lv_goto (tgt := 1419) hx hb dL_law_1390 (by decide) ?_
            refine lv_iinc (v := nI (i + 1)) (lv' := [(22, .int (nI (i + 1))), (23, .int (itN st n ln i)), (0, .ref b), (1, .ref (ad 0)), (2, .int (nI bd)), (3, .int (nI at9)), (6, .ref (ad 31)), (7, .ref (ad 32)), (8, .ref (ad 33)), (9, .ref (ad 34)), (10, .ref (ad 35)), (11, .ref (ad 36)), (12, .int (nI d)), (13, .int (nI n)), (14, .int (nI mB)), (15, .int (nI nn)), (16, .int (nI t)), (20, .int (nI p9)), (21, .int (nI (stM st n ln p9 i)))]) hx hb dL_law_1419 hl (k := 18) rfl (nI_add _ _) (by decide) rfl (fun ls hl => ?_)
            refine lv_goto (tgt := 1324) hx hb dL_law_1422 (by decide) ?_
            have hcS : ¬ stC st n ln p9 i = true := fun q => (stC_t.mp q).2 c1387
            have eM : stM st n ln p9 (i + 1) = stM st n ln p9 i := by rw [stM, if_neg hcS]
            rw [← eM] at hl
            refine W.widen (k := 1000 + 4000 * t + 6 * (i + 1)) (n := 10000 + 40000 * t + 32 * (i + 1)) (by omega) (by omega) ?_
            exact ih1324 u9 (i + 1) f11 (by rw [stR, if_neg (fun q => hcS q.1)]; exact hv9) (by omega) (by omega) H locs ls h (lv_sub hl [2, 3, 4, 5, 6, 7, 8, 9, 10, 11, 12, 13, 14, 15, 16, 17, 18, 0] rfl)
  refine W.widen (k := 1000 + 4000 * t + 6 * 0) (n := 10000 + 40000 * t + 32 * 0) (by omega) (by omega) ?_
  exact L1324 (mB + 1) st 0 (ga st 10) (by show st = sa (sa st 10 (ga st 10)) 32 (ga st 32); rw [sa_id, sa_id]) (by omega) (by omega) H locs ls h (lv_sub hl [3, 4, 5, 6, 7, 8, 9, 10, 11, 12, 13, 14, 15, 16, 17, 2, 1, 0] rfl)
