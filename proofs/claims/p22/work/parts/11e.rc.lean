set_option maxHeartbeats 4000000 in
set_option maxRecDepth 100000 in
theorem br_rc {p : Program} {e : Env} {s : State} {m : MethodId} {below : List Frame} {meth : Method} {c : Code} (l : Launch) (hl0 : l.stackTraces = false) {D : va_G} {cy : Nat → ClassId} {b L : Nat} {xs : Nat → Int32} (C : xCx p m c code 31 s #[Value.ref b] RL D cy) (hE : xScr b L xs (lwA s) s s.heap) (hL9 : L ≤ 260) {t : Nat} (ht40 : t < 40) {ad : Nat → Nat} {Ls : List Nat} {st : XS} {H : Heap} {locs : List Loc} {ls : Array Slot} {bd at9 d n mB nn p9 : Nat} {ln : Nat → Nat} (h : xH D cy ad Ls (lwA s) s st H locs) (hI : PI Ls st bd d n mB nn ln) (hat : at9 ≤ 3 + 5 * t) (hd : d ≤ 4 * t) (hp2 : p9 < 2) {x9 y9 : Int32} (hl : lv_has ls 31 [(20, .int (nI p9)), (18, .int y9), (17, .int x9), (0, .ref b), (1, .ref (ad 0)), (2, .int (nI bd)), (3, .int (nI at9)), (6, .ref (ad 31)), (7, .ref (ad 32)), (8, .ref (ad 33)), (9, .ref (ad 34)), (10, .ref (ad 35)), (11, .ref (ad 36)), (12, .int (nI d)), (13, .int (nI n)), (14, .int (nI mB)), (15, .int (nI nn)), (16, .int (nI t))]) (K : K78 p l e s m below meth c D cy b bd t) : W p l e room_1 s m #[Value.ref b] below meth c H locs (1000 + 4000 * t) (10000 + 40000 * t) (lw_Z below #[Value.ref b] s) (F0 m 408 ls []) := by
  have hx := C.1
  have hb := C.2.1
  have hI9 := hI
  obtain ⟨hA9, hPR, hPM, hPD, hPB, hPN, hPF⟩ := hI
  have hL := hA9.1
  have hR9 := hA9.2.1
  have hm7 : mB ≤ 7 := hA9.2.2.2.2.2.2.2.2
  have hn15 := hPR.1
  refine lv_iload hx hb dL_law_408 (lv_at hl 1 rfl) ?_
  refine lv_iconst (v := nI 3) hx hb dL_law_410 (by decide) ?_
  refine cl_L_37 C h (c_L_low l D cy ad Ls st y9 3 (by omega) (by omega)) (by decide) ⟨by show _ ≤ 754712; omega, by show _ ≤ 6837489; omega⟩ hl.1 (Nat.le_of_ble_eq_true rfl) dL_law_411 (fun r2 u1 H locs hp h => ?_)
  obtain ⟨er2, eu1⟩ := hp; rw [eu1] at h; clear eu1 u1; refine x_topi er2 ?_; clear er2 r2
  obtain ⟨w3, ew3⟩ : ∃ z9, z9 = lowN y9 3 := ⟨_, rfl⟩; have hw3 : w3 < 3 := (by rw [ew3]; exact lowN_lt (by omega)); rw [← ew3]; clear ew3
  refine lv_istore (lv' := [(21, .int (nI w3)), (20, .int (nI p9)), (18, .int y9), (17, .int x9), (0, .ref b), (1, .ref (ad 0)), (2, .int (nI bd)), (3, .int (nI at9)), (6, .ref (ad 31)), (7, .ref (ad 32)), (8, .ref (ad 33)), (9, .ref (ad 34)), (10, .ref (ad 35)), (11, .ref (ad 36)), (12, .int (nI d)), (13, .int (nI n)), (14, .int (nI mB)), (15, .int (nI nn)), (16, .int (nI t))]) hx hb dL_law_414 hl (by decide) rfl (fun ls hl => ?_)
  refine lv_aload_n hx hb dL_law_416 rfl (lv_at hl 5 rfl) ?_
  refine lv_iload hx hb dL_law_417 (lv_at hl 1 rfl) ?_
  refine lv_iload hx hb dL_law_419 (lv_at hl 0 rfl) ?_
  refine cx_L_70 C h (hL 0 rfl) rfl (c_X7_round l hl0 D cy ad Ls st hL (nI p9) (nI w3)) (by decide) ⟨by show _ ≤ 754712; omega, by show _ ≤ 6837489; omega⟩ hl.1 (Nat.le_of_ble_eq_true rfl) dL_law_421 (x_noX (kRound_0 (by omega) (by omega))) (fun r5 u4 H locs hp h => ?_)
  obtain ⟨-, er, hu1⟩ := hp; rw [xget_nI (by omega) (by decide)] at er; rw [xset_nI (by omega) (by decide)] at hu1; refine x_topi er ?_; clear er r5
  refine lv_aload hx hb dL_law_424 (lv_at hl 13 rfl) ?_
  refine lv_iload hx hb dL_law_426 (lv_at hl 1 rfl) ?_
  refine x_ald C h (hR9 36 (by decide) (by decide)) (n := 4) rfl p9 (by omega) (by decide) rfl dL_law_428 ?_
  refine x_icmp_eq_t (tgt := 434) hx hb dL_law_429 (by decide) (by rw [hu1]; exact (hPM.2.2.1 p9 hp2).symm) ?_
  refine lv_aload hx hb dL_law_434 (lv_at hl 13 rfl) ?_
  refine lv_iload hx hb dL_law_436 (lv_at hl 1 rfl) ?_
  refine lv_iload hx hb dL_law_438 (lv_at hl 0 rfl) ?_
  refine x_ast C h (hR9 36 (by decide) (by decide)) (n := 4) rfl p9 (by omega) (by decide) rfl dL_law_440 (fun H locs u6 eu6 h => ?_)
  refine lv_iload hx hb dL_law_441 (lv_at hl 2 rfl) ?_
  refine lv_iconst (v := nI 3) hx hb dL_law_443 (by decide) ?_
  refine lv_ishr hx hb dL_law_444 ?_
  refine lv_topi (fun y7 ey7 => ?_)
  refine lv_iconst (v := nI 3) hx hb dL_law_445 (by decide) ?_
  refine cl_L_37 C h (c_L_low l D cy ad Ls u6 y7 3 (by omega) (by omega)) (by decide) ⟨by show _ ≤ 754712; omega, by show _ ≤ 6837489; omega⟩ hl.1 (Nat.le_of_ble_eq_true rfl) dL_law_446 (fun r9 u8 H locs hp h => ?_)
  obtain ⟨er9, eu8⟩ := hp; rw [eu8] at h; clear eu8 u8; refine x_topi er9 ?_; clear er9 r9
  obtain ⟨w10, ew10⟩ : ∃ z9, z9 = lowN y7 3 := ⟨_, rfl⟩; have hw10 : w10 < 3 := (by rw [ew10]; exact lowN_lt (by omega)); rw [← ew10]; clear ew10
  refine lv_istore (lv' := [(22, .int (nI w10)), (21, .int (nI w3)), (20, .int (nI p9)), (18, .int y9), (17, .int x9), (0, .ref b), (1, .ref (ad 0)), (2, .int (nI bd)), (3, .int (nI at9)), (6, .ref (ad 31)), (7, .ref (ad 32)), (8, .ref (ad 33)), (9, .ref (ad 34)), (10, .ref (ad 35)), (11, .ref (ad 36)), (12, .int (nI d)), (13, .int (nI n)), (14, .int (nI mB)), (15, .int (nI nn)), (16, .int (nI t))]) hx hb dL_law_449 hl (by decide) rfl (fun ls hl => ?_)
  refine lv_iload hx hb dL_law_451 (lv_at hl 3 rfl) ?_
  refine lv_iconst (v := nI 5) hx hb dL_law_453 (by decide) ?_
  refine lv_ishr hx hb dL_law_454 ?_
  refine lv_topi (fun y11 ey11 => ?_)
  refine lv_iconst (v := nI 2) hx hb dL_law_455 (by decide) ?_
  refine cl_L_37 C h (c_L_low l D cy ad Ls u6 y11 2 (by omega) (by omega)) (by decide) ⟨by show _ ≤ 754712; omega, by show _ ≤ 6837489; omega⟩ hl.1 (Nat.le_of_ble_eq_true rfl) dL_law_456 (fun r13 u12 H locs hp h => ?_)
  obtain ⟨er13, eu12⟩ := hp; rw [eu12] at h; clear eu12 u12; refine x_topi er13 ?_; clear er13 r13
  obtain ⟨w14, ew14⟩ : ∃ z9, z9 = lowN y11 2 := ⟨_, rfl⟩; have hw14 : w14 < 2 := (by rw [ew14]; exact lowN_lt (by omega)); rw [← ew14]; clear ew14
  refine lv_istore (lv' := [(23, .int (nI w14)), (22, .int (nI w10)), (21, .int (nI w3)), (20, .int (nI p9)), (18, .int y9), (17, .int x9), (0, .ref b), (1, .ref (ad 0)), (2, .int (nI bd)), (3, .int (nI at9)), (6, .ref (ad 31)), (7, .ref (ad 32)), (8, .ref (ad 33)), (9, .ref (ad 34)), (10, .ref (ad 35)), (11, .ref (ad 36)), (12, .int (nI d)), (13, .int (nI n)), (14, .int (nI mB)), (15, .int (nI nn)), (16, .int (nI t))]) hx hb dL_law_459 hl (by decide) rfl (fun ls hl => ?_)
  refine lv_aload_n hx hb dL_law_461 rfl (lv_at hl 7 rfl) ?_
  refine lv_iload hx hb dL_law_462 (lv_at hl 1 rfl) ?_
  refine lv_iload hx hb dL_law_464 (lv_at hl 0 rfl) ?_
  have hI1 : PI Ls u6 bd d n mB nn ln := by rw [eu6, hu1]; exact PI_round hI9 (by omega)
  have hM1 := hI1.2.2.1
  refine cx_L_73 C h (hL 0 rfl) rfl (c_X7_client l hl0 D cy ad Ls u6 hL (nI w10) (nI w14)) (by decide) ⟨by show _ ≤ 754712; omega, by show _ ≤ 6837489; omega⟩ hl.1 (Nat.le_of_ble_eq_true rfl) dL_law_466 (x_noX (kClient_0 (by omega) (by omega))) (fun r16 u15 H locs hp h => ?_)
  obtain ⟨-, er, hu2⟩ := hp; rw [xget_nI (by omega) (by decide)] at er; rw [xset_nI (by omega) (by decide)] at hu2; refine x_topi er ?_; clear er r16
  refine lv_aload hx hb dL_law_469 (lv_at hl 14 rfl) ?_
  refine lv_iload hx hb dL_law_471 (lv_at hl 1 rfl) ?_
  refine x_ald C h (hR9 35 (by decide) (by decide)) (n := 16) rfl w10 (by omega) (by decide) rfl dL_law_473 ?_
  refine x_icmp_eq_t (tgt := 479) hx hb dL_law_474 (by decide) (by rw [hu2]; exact (hM1.2.2.2.2 w10 (by omega)).symm) ?_
  refine lv_aload hx hb dL_law_479 (lv_at hl 14 rfl) ?_
  refine lv_iload hx hb dL_law_481 (lv_at hl 1 rfl) ?_
  refine lv_iload hx hb dL_law_483 (lv_at hl 0 rfl) ?_
  refine x_ast C h (hR9 35 (by decide) (by decide)) (n := 16) rfl w10 (by omega) (by decide) rfl dL_law_485 (fun H locs u17 eu17 h => ?_)
  refine lv_goto (tgt := 1478) hx hb dL_law_486 (by decide) ?_
  refine W.widen (k := 3000 + 4000 * t) (n := 40000 + 40000 * t) (by omega) (by omega) ?_
  exact K p9 ad Ls u17 H locs ls at9 d n mB nn ln (by omega) (by omega) (by omega) h (by rw [eu17, hu2]; exact PI_client hI1 (by omega)) (lv_sub hl [3, 6, 7, 8, 9, 10, 11, 12, 13, 14, 15, 16, 17, 18, 19, 20] rfl)
