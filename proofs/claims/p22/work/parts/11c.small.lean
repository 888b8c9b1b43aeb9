set_option maxHeartbeats 4000000 in
set_option maxRecDepth 100000 in
theorem br_rate {p : Program} {e : Env} {s : State} {m : MethodId} {below : List Frame} {meth : Method} {c : Code} (l : Launch) (hl0 : l.stackTraces = false) {D : va_G} {cy : Nat → ClassId} {b L : Nat} {xs : Nat → Int32} (C : xCx p m c code 31 s #[Value.ref b] RL D cy) (hE : xScr b L xs (lwA s) s s.heap) (hL9 : L ≤ 260) {t : Nat} (ht40 : t < 40) {ad : Nat → Nat} {Ls : List Nat} {st : XS} {H : Heap} {locs : List Loc} {ls : Array Slot} {bd at9 d n mB nn p9 : Nat} {ln : Nat → Nat} (h : xH D cy ad Ls (lwA s) s st H locs) (hI : PI Ls st bd d n mB nn ln) (hat : at9 ≤ 3 + 5 * t) (hd : d ≤ 4 * t) (hp2 : p9 < 2) (hn9 : n < 15) {x9 y9 : Int32} (hl : lv_has ls 31 [(20, .int (nI p9)), (18, .int y9), (17, .int x9), (0, .ref b), (1, .ref (ad 0)), (2, .int (nI bd)), (3, .int (nI at9)), (6, .ref (ad 31)), (7, .ref (ad 32)), (8, .ref (ad 33)), (9, .ref (ad 34)), (10, .ref (ad 35)), (11, .ref (ad 36)), (12, .int (nI d)), (13, .int (nI n)), (14, .int (nI mB)), (15, .int (nI nn)), (16, .int (nI t))]) (K : K78 p l e s m below meth c D cy b bd t) : W p l e room_1 s m #[Value.ref b] below meth c H locs (1000 + 4000 * t) (10000 + 40000 * t) (lw_Z below #[Value.ref b] s) (F0 m 256 ls []) := by
  have hx := C.1
  have hb := C.2.1
  have hI9 := hI
  obtain ⟨hA9, hPR, hPM, hPD, hPB, hPN, hPF⟩ := hI
  have hL := hA9.1
  have hR9 := hA9.2.1
  have hm7 : mB ≤ 7 := hA9.2.2.2.2.2.2.2.2
  have hn15 := hPR.1
  refine lv_aload hx hb dL_law_256 (lv_at hl 7 rfl) ?_
  refine lv_iconst (v := nI 4) hx hb dL_law_258 (by decide) ?_
  refine lv_iload hx hb dL_law_259 (lv_at hl 14 rfl) ?_
  refine x_mulN hx hb dL_law_261 ?_
  refine lv_iload hx hb dL_law_262 (lv_at hl 0 rfl) ?_
  refine x_ast C h (hR9 31 (by decide) (by decide)) (n := 64) rfl (4 * n) (by omega) (by decide) rfl dL_law_264 (fun H locs u1 eu1 h => ?_)
  refine lv_aload hx hb dL_law_265 (lv_at hl 7 rfl) ?_
  refine lv_iconst (v := nI 4) hx hb dL_law_267 (by decide) ?_
  refine lv_iload hx hb dL_law_268 (lv_at hl 14 rfl) ?_
  refine x_mulN hx hb dL_law_270 ?_
  refine lv_iconst (v := nI 1) hx hb dL_law_271 (by decide) ?_
  refine x_addN hx hb dL_law_272 ?_
  refine lv_iload hx hb dL_law_273 (lv_at hl 2 rfl) ?_
  refine lv_bipush (v := nI 6) hx hb dL_law_275 (by decide) ?_
  refine lv_ishr hx hb dL_law_277 ?_
  refine lv_topi (fun y2 ey2 => ?_)
  refine lv_iconst (v := nI 3) hx hb dL_law_278 (by decide) ?_
  refine cl_L_37 C h (c_L_low l D cy ad Ls u1 y2 3 (by omega) (by omega)) (by decide) ⟨by show _ ≤ 754712; omega, by show _ ≤ 6837489; omega⟩ hl.1 (Nat.le_of_ble_eq_true rfl) dL_law_279 (fun r4 u3 H locs hp h => ?_)
  obtain ⟨er4, eu3⟩ := hp; rw [eu3] at h; clear eu3 u3; refine x_topi er4 ?_; clear er4 r4
  obtain ⟨w5, ew5⟩ : ∃ z9, z9 = lowN y2 3 := ⟨_, rfl⟩; have hw5 : w5 < 3 := (by rw [ew5]; exact lowN_lt (by omega)); rw [← ew5]; clear ew5
  refine x_ast C h (hR9 31 (by decide) (by decide)) (n := 64) rfl ((4 * n) + 1) (by omega) (by decide) rfl dL_law_282 (fun H locs u6 eu6 h => ?_)
  refine lv_aload hx hb dL_law_283 (lv_at hl 7 rfl) ?_
  refine lv_iconst (v := nI 4) hx hb dL_law_285 (by decide) ?_
  refine lv_iload hx hb dL_law_286 (lv_at hl 14 rfl) ?_
  refine x_mulN hx hb dL_law_288 ?_
  refine lv_iconst (v := nI 2) hx hb dL_law_289 (by decide) ?_
  refine x_addN hx hb dL_law_290 ?_
  refine lv_iload hx hb dL_law_291 (lv_at hl 1 rfl) ?_
  refine lv_bipush (v := nI 101) hx hb dL_law_293 (by decide) ?_
  refine cl_L_37 C h (c_L_low l D cy ad Ls u6 y9 101 (by omega) (by omega)) (by decide) ⟨by show _ ≤ 754712; omega, by show _ ≤ 6837489; omega⟩ hl.1 (Nat.le_of_ble_eq_true rfl) dL_law_295 (fun r8 u7 H locs hp h => ?_)
  obtain ⟨er8, eu7⟩ := hp; rw [eu7] at h; clear eu7 u7; refine x_topi er8 ?_; clear er8 r8
  obtain ⟨w9, ew9⟩ : ∃ z9, z9 = lowN y9 101 := ⟨_, rfl⟩; have hw9 : w9 < 101 := (by rw [ew9]; exact lowN_lt (by omega)); rw [← ew9]; clear ew9
  refine x_ast C h (hR9 31 (by decide) (by decide)) (n := 64) rfl ((4 * n) + 2) (by omega) (by decide) rfl dL_law_298 (fun H locs u10 eu10 h => ?_)
  refine lv_aload hx hb dL_law_299 (lv_at hl 7 rfl) ?_
  refine lv_iconst (v := nI 4) hx hb dL_law_301 (by decide) ?_
  refine lv_iload hx hb dL_law_302 (lv_at hl 14 rfl) ?_
  refine x_mulN hx hb dL_law_304 ?_
  refine lv_iconst (v := nI 3) hx hb dL_law_305 (by decide) ?_
  refine x_addN hx hb dL_law_306 ?_
  refine lv_iload hx hb dL_law_307 (lv_at hl 1 rfl) ?_
  refine lv_bipush (v := nI 8) hx hb dL_law_309 (by decide) ?_
  refine lv_ishr hx hb dL_law_311 ?_
  refine lv_topi (fun y11 ey11 => ?_)
  refine lv_bipush (v := nI 30) hx hb dL_law_312 (by decide) ?_
  refine cl_L_37 C h (c_L_low l D cy ad Ls u10 y11 30 (by omega) (by omega)) (by decide) ⟨by show _ ≤ 754712; omega, by show _ ≤ 6837489; omega⟩ hl.1 (Nat.le_of_ble_eq_true rfl) dL_law_314 (fun r13 u12 H locs hp h => ?_)
  obtain ⟨er13, eu12⟩ := hp; rw [eu12] at h; clear eu12 u12; refine x_topi er13 ?_; clear er13 r13
  obtain ⟨w14, ew14⟩ : ∃ z9, z9 = lowN y11 30 := ⟨_, rfl⟩; have hw14 : w14 < 30 := (by rw [ew14]; exact lowN_lt (by omega)); rw [← ew14]; clear ew14
  refine x_ast C h (hR9 31 (by decide) (by decide)) (n := 64) rfl ((4 * n) + 3) (by omega) (by decide) rfl dL_law_317 (fun H locs u15 eu15 h => ?_)
  obtain ⟨g9, hg9⟩ : ∃ g9, g9 = upd (upd (upd (upd (ga st 31) (4 * n) (nI p9)) (4 * n + 1) (nI w5)) (4 * n + 2) (nI w9)) (4 * n + 3) (nI w14) := ⟨_, rfl⟩
  have hv : u15 = sa st 31 g9 := by rw [eu15, eu10, eu6, eu1, hg9]; simp only [ga_self, sa_sa]
  obtain ⟨g0, g1, g2, g3, -⟩ := upd4 hg9
  refine lv_aload_n hx hb dL_law_318 rfl (lv_at hl 4 rfl) ?_
  refine lv_iload hx hb dL_law_319 (lv_at hl 0 rfl) ?_
  refine lv_aload hx hb dL_law_321 (lv_at hl 7 rfl) ?_
  refine lv_iconst (v := nI 4) hx hb dL_law_323 (by decide) ?_
  refine lv_iload hx hb dL_law_324 (lv_at hl 14 rfl) ?_
  refine x_mulN hx hb dL_law_326 ?_
  refine lv_iconst (v := nI 1) hx hb dL_law_327 (by decide) ?_
  refine x_addN hx hb dL_law_328 ?_
  refine x_ald C h (hR9 31 (by decide) (by decide)) (n := 64) rfl ((4 * n) + 1) (by omega) (by decide) rfl dL_law_329 ?_
  refine x_topi (y := nI w5) (by rw [hv, ga_self]; exact g1) ?_
  refine lv_aload hx hb dL_law_330 (lv_at hl 7 rfl) ?_
  refine lv_iconst (v := nI 4) hx hb dL_law_332 (by decide) ?_
  refine lv_iload hx hb dL_law_333 (lv_at hl 14 rfl) ?_
  refine x_mulN hx hb dL_law_335 ?_
  refine lv_iconst (v := nI 2) hx hb dL_law_336 (by decide) ?_
  refine x_addN hx hb dL_law_337 ?_
  refine x_ald C h (hR9 31 (by decide) (by decide)) (n := 64) rfl ((4 * n) + 2) (by omega) (by decide) rfl dL_law_338 ?_
  refine x_topi (y := nI w9) (by rw [hv, ga_self]; exact g2) ?_
  refine lv_aload hx hb dL_law_339 (lv_at hl 7 rfl) ?_
  refine lv_iconst (v := nI 4) hx hb dL_law_341 (by decide) ?_
  refine lv_iload hx hb dL_law_342 (lv_at hl 14 rfl) ?_
  refine x_mulN hx hb dL_law_344 ?_
  refine lv_iconst (v := nI 3) hx hb dL_law_345 (by decide) ?_
  refine x_addN hx hb dL_law_346 ?_
  refine x_ald C h (hR9 31 (by decide) (by decide)) (n := 64) rfl ((4 * n) + 3) (by omega) (by decide) rfl dL_law_347 ?_
  refine x_topi (y := nI w14) (by rw [hv, ga_self]; exact g3) ?_
  refine cx_L_63 C h (hL 0 rfl) rfl (c_X7_rate l hl0 D cy ad Ls u15 hL n (by omega) (by rw [hv]; exact hPR.2.1) (nI p9) (nI w5) (nI w9) (nI w14)) (by decide) ⟨by show _ ≤ 754712; omega, by show _ ≤ 6837489; omega⟩ hl.1 (Nat.le_of_ble_eq_true rfl) dL_law_348 (x_noX (kRate_0 (by omega) (by omega) (by omega) (by omega) (by omega))) (fun r17 u16 H locs hp h => ?_)
  obtain ⟨-, er, hu⟩ := hp; refine x_topi er ?_; clear er r17
  refine lv_iload hx hb dL_law_351 (lv_at hl 14 rfl) ?_
  refine x_icmp_eq_t (tgt := 358) hx hb dL_law_353 (by decide) rfl ?_
  refine lv_iinc (v := nI (n + 1)) (lv' := [(13, .int (nI (n + 1))), (20, .int (nI p9)), (18, .int y9), (17, .int x9), (0, .ref b), (1, .ref (ad 0)), (2, .int (nI bd)), (3, .int (nI at9)), (6, .ref (ad 31)), (7, .ref (ad 32)), (8, .ref (ad 33)), (9, .ref (ad 34)), (10, .ref (ad 35)), (11, .ref (ad 36)), (12, .int (nI d)), (14, .int (nI mB)), (15, .int (nI nn)), (16, .int (nI t))]) hx hb dL_law_358 hl (k := 14) rfl (nI_add _ _) (by decide) rfl (fun ls hl => ?_)
  refine lv_goto (tgt := 1478) hx hb dL_law_361 (by decide) ?_
  refine W.widen (k := 3000 + 4000 * t) (n := 40000 + 40000 * t) (by omega) (by omega) ?_
  exact K p9 ad Ls u16 H locs ls at9 d (n + 1) mB nn ln (by omega) (by omega) (by omega) h (PI_rate hI9 hn9 (by omega) (by omega) hg9 hv hu) (lv_sub hl [1, 4, 5, 6, 7, 8, 9, 10, 11, 12, 13, 14, 0, 15, 16, 17] rfl)

set_option maxHeartbeats 4000000 in
set_option maxRecDepth 100000 in
theorem br_pass {p : Program} {e : Env} {s : State} {m : MethodId} {below : List Frame} {meth : Method} {c : Code} (l : Launch) (hl0 : l.stackTraces = false) {D : va_G} {cy : Nat → ClassId} {b L : Nat} {xs : Nat → Int32} (C : xCx p m c code 31 s #[Value.ref b] RL D cy) (hE : xScr b L xs (lwA s) s s.heap) (hL9 : L ≤ 260) {t : Nat} (ht40 : t < 40) {ad : Nat → Nat} {Ls : List Nat} {st : XS} {H : Heap} {locs : List Loc} {ls : Array Slot} {bd at9 d n mB nn p9 : Nat} {ln : Nat → Nat} (h : xH D cy ad Ls (lwA s) s st H locs) (hI : PI Ls st bd d n mB nn ln) (hat : at9 ≤ 3 + 5 * t) (hd : d ≤ 4 * t) (hp2 : p9 < 2) {x9 y9 : Int32} (hl : lv_has ls 31 [(20, .int (nI p9)), (18, .int y9), (17, .int x9), (0, .ref b), (1, .ref (ad 0)), (2, .int (nI bd)), (3, .int (nI at9)), (6, .ref (ad 31)), (7, .ref (ad 32)), (8, .ref (ad 33)), (9, .ref (ad 34)), (10, .ref (ad 35)), (11, .ref (ad 36)), (12, .int (nI d)), (13, .int (nI n)), (14, .int (nI mB)), (15, .int (nI nn)), (16, .int (nI t))]) (K : K78 p l e s m below meth c D cy b bd t) : W p l e room_1 s m #[Value.ref b] below meth c H locs (1000 + 4000 * t) (10000 + 40000 * t) (lw_Z below #[Value.ref b] s) (F0 m 370 ls []) := by
  have hx := C.1
  have hb := C.2.1
  have hI9 := hI
  obtain ⟨hA9, hPR, hPM, hPD, hPB, hPN, hPF⟩ := hI
  have hL := hA9.1
  have hR9 := hA9.2.1
  have hm7 : mB ≤ 7 := hA9.2.2.2.2.2.2.2.2
  have hn15 := hPR.1
  obtain ⟨w9, hw9⟩ : ∃ z9, z9 = lowN y9 4 := ⟨_, rfl⟩
  have hw4 : w9 < 4 := by rw [hw9]; exact lowN_lt (by decide)
  refine lv_iload hx hb dL_law_370 (lv_at hl 13 rfl) ?_
  refine lv_iconst (v := nI 1) hx hb dL_law_372 (by decide) ?_
  refine lv_iload hx hb dL_law_373 (lv_at hl 1 rfl) ?_
  refine lv_iconst (v := nI 4) hx hb dL_law_375 (by decide) ?_
  refine cl_L_37 C h (c_L_low l D cy ad Ls st y9 4 (by omega) (by omega)) (by decide) ⟨by show _ ≤ 754712; omega, by show _ ≤ 6837489; omega⟩ hl.1 (Nat.le_of_ble_eq_true rfl) dL_law_376 (fun r2 u1 H locs hp h => ?_)
  obtain ⟨er2, eu1⟩ := hp; rw [eu1] at h; clear eu1 u1; refine x_topi er2 ?_; clear er2 r2
  refine x_topi (y := nI w9) (by rw [hw9]) ?_
  refine x_addN hx hb dL_law_379 ?_
  refine x_addN hx hb dL_law_380 ?_
  refine lv_istore (lv' := [(12, .int (nI (d + (1 + w9)))), (20, .int (nI p9)), (18, .int y9), (17, .int x9), (0, .ref b), (1, .ref (ad 0)), (2, .int (nI bd)), (3, .int (nI at9)), (6, .ref (ad 31)), (7, .ref (ad 32)), (8, .ref (ad 33)), (9, .ref (ad 34)), (10, .ref (ad 35)), (11, .ref (ad 36)), (13, .int (nI n)), (14, .int (nI mB)), (15, .int (nI nn)), (16, .int (nI t))]) hx hb dL_law_381 hl (by decide) rfl (fun ls hl => ?_)
  refine lv_aload_n hx hb dL_law_383 rfl (lv_at hl 5 rfl) ?_
  refine lv_iconst (v := nI 1) hx hb dL_law_384 (by decide) ?_
  refine lv_iload hx hb dL_law_385 (lv_at hl 2 rfl) ?_
  refine lv_iconst (v := nI 4) hx hb dL_law_387 (by decide) ?_
  refine cl_L_37 C h (c_L_low l D cy ad Ls st y9 4 (by omega) (by omega)) (by decide) ⟨by show _ ≤ 754712; omega, by show _ ≤ 6837489; omega⟩ hl.1 (Nat.le_of_ble_eq_true rfl) dL_law_388 (fun r4 u3 H locs hp h => ?_)
  obtain ⟨er4, eu3⟩ := hp; rw [eu3] at h; clear eu3 u3; refine x_topi er4 ?_; clear er4 r4
  refine x_topi (y := nI w9) (by rw [hw9]) ?_
  refine x_addN hx hb dL_law_391 ?_
  refine cx_L_67 C h (hL 0 rfl) rfl (c_X7_pass l hl0 D cy ad Ls st hL (nI (1 + w9))) (by decide) ⟨by show _ ≤ 754712; omega, by show _ ≤ 6837489; omega⟩ hl.1 (Nat.le_of_ble_eq_true rfl) dL_law_392 (x_noX (kPass_0 (by omega) (by omega))) (fun r6 u5 H locs hp h => ?_)
  obtain ⟨-, er, hu⟩ := hp; rw [hPM.1, nI_add] at er hu; refine x_topi er ?_; clear er r6
  refine lv_iload hx hb dL_law_395 (lv_at hl 0 rfl) ?_
  refine x_icmp_eq_t (tgt := 1478) hx hb dL_law_397 (by decide) rfl ?_
  refine W.widen (k := 3000 + 4000 * t) (n := 40000 + 40000 * t) (by omega) (by omega) ?_
  exact K p9 ad Ls u5 H locs ls at9 (d + (1 + w9)) n mB nn ln (by omega) (by omega) (by omega) h (by rw [hu]; exact PI_pass hI9 _) (lv_sub hl [1, 4, 5, 6, 7, 8, 9, 10, 11, 12, 13, 0, 14, 15, 16, 17] rfl)
