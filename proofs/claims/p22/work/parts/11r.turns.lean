set_option maxHeartbeats 4000000 in
set_option maxRecDepth 100000 in
theorem br_turn {p : Program} {e : Env} {s : State} {m : MethodId} {below : List Frame} {meth : Method} {c : Code} (l : Launch) (hl0 : l.stackTraces = false) {D : va_G} {cy : Nat → ClassId} {b L : Nat} {xs : Nat → Int32} (C : xCx p m c code 31 s #[Value.ref b] RL D cy) (hE : xScr b L xs (lwA s) s s.heap) (hL9 : L ≤ 260) {t : Nat} (ht40 : t < 40) {ad : Nat → Nat} {Ls : List Nat} {st : XS} {H : Heap} {locs : List Loc} {ls : Array Slot} {bd at9 d n mB nn p9 : Nat} {ln : Nat → Nat} (h : xH D cy ad Ls (lwA s) s st H locs) (hI : PI Ls st bd d n mB nn ln) (hat : at9 ≤ 1 + 5 * t) (hd : d ≤ 4 * t) (hl : lv_has ls 31 [(0, .ref b), (1, .ref (ad 0)), (2, .int (nI bd)), (3, .int (nI at9)), (6, .ref (ad 31)), (7, .ref (ad 32)), (8, .ref (ad 33)), (9, .ref (ad 34)), (10, .ref (ad 35)), (11, .ref (ad 36)), (12, .int (nI d)), (13, .int (nI n)), (14, .int (nI mB)), (15, .int (nI nn)), (16, .int (nI t))]) (K : K98 p l e s m below meth c D cy b bd (t + 1)) : W p l e room_1 s m #[Value.ref b] below meth c H locs (1000 + 4000 * t) (10000 + 40000 * t) (lw_Z below #[Value.ref b] s) (F0 m 198 ls []) := by
  have hx := C.1
  have hb := C.2.1
  have hI9 := hI
  obtain ⟨hA9, hPR, hPM, hPD, hPB, hPN, hPF⟩ := hI
  have hL := hA9.1
  have hR9 := hA9.2.1
  have hm7 : mB ≤ 7 := hA9.2.2.2.2.2.2.2.2
  have hn15 := hPR.1
  have K7 : K78 p l e s m below meth c D cy b bd t := fun p9 ad Ls st H locs ls at9 d n mB nn ln hp hat hd h hI hl => br_tail l hl0 C hE hL9 ht40 h hI hat hd hp hl K
  refine lv_iload hx hb dL_law_198 (lv_at hl 14 rfl) ?_
  refine lv_bipush (v := nI 40) hx hb dL_law_200 (by decide) ?_
  refine x_icmpN_ge (tgt := 1649) hx hb dL_law_202 (by decide) (by omega) (by omega) (fun c202 => ?_) (fun c202 => ?_)
  · exact absurd c202 (by omega)
  · refine lv_aload_n hx hb dL_law_205 rfl (lv_at hl 0 rfl) ?_
    refine lv_iload_n hx hb dL_law_206 rfl (lv_at hl 3 rfl) ?_
    refine cc_L_33 C h hE (by omega) (k := at9) (by omega) (by decide) ⟨by show _ ≤ 754712; omega, by show _ ≤ 6837489; omega⟩ hl.1 (Nat.le_of_ble_eq_true rfl) dL_law_207 (fun H locs h => ?_)
    refine lv_topi (fun x1 ex1 => ?_); clear ex1
    refine lv_istore (lv' := [(17, .int x1), (0, .ref b), (1, .ref (ad 0)), (2, .int (nI bd)), (3, .int (nI at9)), (6, .ref (ad 31)), (7, .ref (ad 32)), (8, .ref (ad 33)), (9, .ref (ad 34)), (10, .ref (ad 35)), (11, .ref (ad 36)), (12, .int (nI d)), (13, .int (nI n)), (14, .int (nI mB)), (15, .int (nI nn)), (16, .int (nI t))]) hx hb dL_law_210 hl (by decide) rfl (fun ls hl => ?_)
    refine lv_aload_n hx hb dL_law_212 rfl (lv_at hl 1 rfl) ?_
    refine lv_iload_n hx hb dL_law_213 rfl (lv_at hl 4 rfl) ?_
    refine lv_iconst (v := nI 1) hx hb dL_law_214 (by decide) ?_
    refine x_addN hx hb dL_law_215 ?_
    refine cc_L_33 C h hE (by omega) (k := (at9 + 1)) (by omega) (by decide) ⟨by show _ ≤ 754712; omega, by show _ ≤ 6837489; omega⟩ hl.1 (Nat.le_of_ble_eq_true rfl) dL_law_216 (fun H locs h => ?_)
    refine lv_topi (fun x2 ex2 => ?_); clear ex2
    refine lv_istore (lv' := [(18, .int x2), (17, .int x1), (0, .ref b), (1, .ref (ad 0)), (2, .int (nI bd)), (3, .int (nI at9)), (6, .ref (ad 31)), (7, .ref (ad 32)), (8, .ref (ad 33)), (9, .ref (ad 34)), (10, .ref (ad 35)), (11, .ref (ad 36)), (12, .int (nI d)), (13, .int (nI n)), (14, .int (nI mB)), (15, .int (nI nn)), (16, .int (nI t))]) hx hb dL_law_219 hl (by decide) rfl (fun ls hl => ?_)
    refine lv_iinc (v := nI (at9 + 2)) (lv' := [(3, .int (nI (at9 + 2))), (18, .int x2), (17, .int x1), (0, .ref b), (1, .ref (ad 0)), (2, .int (nI bd)), (6, .ref (ad 31)), (7, .ref (ad 32)), (8, .ref (ad 33)), (9, .ref (ad 34)), (10, .ref (ad 35)), (11, .ref (ad 36)), (12, .int (nI d)), (13, .int (nI n)), (14, .int (nI mB)), (15, .int (nI nn)), (16, .int (nI t))]) hx hb dL_law_221 hl (k := 5) rfl (nI_add _ _) (by decide) rfl (fun ls hl => ?_)
    refine lv_iload hx hb dL_law_224 (lv_at hl 2 rfl) ?_
    refine lv_bipush (v := nI 9) hx hb dL_law_226 (by decide) ?_
    refine cl_L_37 C h (c_L_low l D cy ad Ls st x1 9 (by omega) (by omega)) (by decide) ⟨by show _ ≤ 754712; omega, by show _ ≤ 6837489; omega⟩ hl.1 (Nat.le_of_ble_eq_true rfl) dL_law_228 (fun r4 u3 H locs hp h => ?_)
    obtain ⟨er4, eu3⟩ := hp; rw [eu3] at h; clear eu3 u3; refine x_topi er4 ?_; clear er4 r4
    obtain ⟨w5, ew5⟩ : ∃ z9, z9 = lowN x1 9 := ⟨_, rfl⟩; have hw5 : w5 < 9 := (by rw [ew5]; exact lowN_lt (by omega)); rw [← ew5]; clear ew5
    refine lv_istore (lv' := [(19, .int (nI w5)), (3, .int (nI (at9 + 2))), (18, .int x2), (17, .int x1), (0, .ref b), (1, .ref (ad 0)), (2, .int (nI bd)), (6, .ref (ad 31)), (7, .ref (ad 32)), (8, .ref (ad 33)), (9, .ref (ad 34)), (10, .ref (ad 35)), (11, .ref (ad 36)), (12, .int (nI d)), (13, .int (nI n)), (14, .int (nI mB)), (15, .int (nI nn)), (16, .int (nI t))]) hx hb dL_law_231 hl (by decide) rfl (fun ls hl => ?_)
    refine lv_iload hx hb dL_law_233 (lv_at hl 3 rfl) ?_
    refine lv_iconst (v := nI 4) hx hb dL_law_235 (by decide) ?_
    refine lv_ishr hx hb dL_law_236 ?_
    refine lv_topi (fun y6 ey6 => ?_)
    refine lv_iconst (v := nI 2) hx hb dL_law_237 (by decide) ?_
    refine cl_L_37 C h (c_L_low l D cy ad Ls st y6 2 (by omega) (by omega)) (by decide) ⟨by show _ ≤ 754712; omega, by show _ ≤ 6837489; omega⟩ hl.1 (Nat.le_of_ble_eq_true rfl) dL_law_238 (fun r8 u7 H locs hp h => ?_)
    obtain ⟨er8, eu7⟩ := hp; rw [eu7] at h; clear eu7 u7; refine x_topi er8 ?_; clear er8 r8
    obtain ⟨w9, ew9⟩ : ∃ z9, z9 = lowN y6 2 := ⟨_, rfl⟩; have hw9 : w9 < 2 := (by rw [ew9]; exact lowN_lt (by omega)); rw [← ew9]; clear ew9
    refine lv_istore (lv' := [(20, .int (nI w9)), (19, .int (nI w5)), (3, .int (nI (at9 + 2))), (18, .int x2), (17, .int x1), (0, .ref b), (1, .ref (ad 0)), (2, .int (nI bd)), (6, .ref (ad 31)), (7, .ref (ad 32)), (8, .ref (ad 33)), (9, .ref (ad 34)), (10, .ref (ad 35)), (11, .ref (ad 36)), (12, .int (nI d)), (13, .int (nI n)), (14, .int (nI mB)), (15, .int (nI nn)), (16, .int (nI t))]) hx hb dL_law_241 hl (by decide) rfl (fun ls hl => ?_)
    refine lv_iload hx hb dL_law_243 (lv_at hl 1 rfl) ?_
    refine lv_iconst (v := nI 3) hx hb dL_law_245 (by decide) ?_
    refine x_icmpN_ge (tgt := 364) hx hb dL_law_246 (by decide) (by omega) (by omega) (fun c246 => ?_) (fun c246 => ?_)
    · refine lv_iload hx hb dL_law_364 (lv_at hl 1 rfl) ?_
      refine lv_iconst (v := nI 3) hx hb dL_law_366 (by decide) ?_
      refine x_icmpN_ne (tgt := 402) hx hb dL_law_367 (by decide) (by omega) (by omega) (fun c367 => ?_) (fun c367 => ?_)
      · refine lv_iload hx hb dL_law_402 (lv_at hl 1 rfl) ?_
        refine lv_iconst (v := nI 4) hx hb dL_law_404 (by decide) ?_
        refine x_icmpN_ne (tgt := 489) hx hb dL_law_405 (by decide) (by omega) (by omega) (fun c405 => ?_) (fun c405 => ?_)
        · refine lv_iload hx hb dL_law_489 (lv_at hl 1 rfl) ?_
          refine lv_bipush (v := nI 7) hx hb dL_law_491 (by decide) ?_
          refine x_icmpN_ge (tgt := 1318) hx hb dL_law_493 (by decide) (by omega) (by omega) (fun c493 => ?_) (fun c493 => ?_)
          · exact br_settle l hl0 C hE hL9 ht40 h hI9 (by omega) hd hw9 (lv_sub hl [0, 5, 6, 7, 2, 8, 9, 10, 11, 12, 13, 14, 15, 16, 17, 18] rfl) K7
          · refine lv_iload hx hb dL_law_496 (lv_at hl 16 rfl) ?_
            refine lv_bipush (v := nI 7) hx hb dL_law_498 (by decide) ?_
            refine x_icmpN_ge (tgt := 1318) hx hb dL_law_500 (by decide) (by omega) (by omega) (fun c500 => ?_) (fun c500 => ?_)
            · exact br_settle l hl0 C hE hL9 ht40 h hI9 (by omega) hd hw9 (lv_sub hl [0, 5, 6, 7, 2, 8, 9, 10, 11, 12, 13, 14, 15, 16, 17, 18] rfl) K7
            · exact br_make1 l hl0 C hE hL9 ht40 h hI9 (by omega) hd hw9 (by omega) (lv_sub hl [0, 3, 5, 6, 7, 2, 8, 9, 10, 11, 12, 13, 14, 15, 16, 17, 18] rfl) K7
        · exact br_rc l hl0 C hE hL9 ht40 h hI9 (by omega) hd hw9 (lv_sub hl [0, 3, 4, 5, 6, 7, 2, 8, 9, 10, 11, 12, 13, 14, 15, 16, 17, 18] rfl) K7
      · exact br_pass l hl0 C hE hL9 ht40 h hI9 (by omega) hd hw9 (lv_sub hl [0, 3, 4, 5, 6, 7, 2, 8, 9, 10, 11, 12, 13, 14, 15, 16, 17, 18] rfl) K7
    · refine lv_iload hx hb dL_law_249 (lv_at hl 15 rfl) ?_
      refine lv_bipush (v := nI 15) hx hb dL_law_251 (by decide) ?_
      refine x_icmpN_ge (tgt := 364) hx hb dL_law_253 (by decide) (by omega) (by omega) (fun c253 => ?_) (fun c253 => ?_)
      · refine lv_iload hx hb dL_law_364 (lv_at hl 1 rfl) ?_
        refine lv_iconst (v := nI 3) hx hb dL_law_366 (by decide) ?_
        refine x_icmpN_ne (tgt := 402) hx hb dL_law_367 (by decide) (by omega) (by omega) (fun c367 => ?_) (fun c367 => ?_)
        · refine lv_iload hx hb dL_law_402 (lv_at hl 1 rfl) ?_
          refine lv_iconst (v := nI 4) hx hb dL_law_404 (by decide) ?_
          refine x_icmpN_ne (tgt := 489) hx hb dL_law_405 (by decide) (by omega) (by omega) (fun c405 => ?_) (fun c405 => ?_)
          · refine lv_iload hx hb dL_law_489 (lv_at hl 1 rfl) ?_
            refine lv_bipush (v := nI 7) hx hb dL_law_491 (by decide) ?_
            refine x_icmpN_ge (tgt := 1318) hx hb dL_law_493 (by decide) (by omega) (by omega) (fun c493 => ?_) (fun c493 => ?_)
            · exact br_settle l hl0 C hE hL9 ht40 h hI9 (by omega) hd hw9 (lv_sub hl [0, 5, 6, 7, 2, 8, 9, 10, 11, 12, 13, 14, 15, 16, 17, 18] rfl) K7
            · refine lv_iload hx hb dL_law_496 (lv_at hl 16 rfl) ?_
              refine lv_bipush (v := nI 7) hx hb dL_law_498 (by decide) ?_
              refine x_icmpN_ge (tgt := 1318) hx hb dL_law_500 (by decide) (by omega) (by omega) (fun c500 => ?_) (fun c500 => ?_)
              · exact br_settle l hl0 C hE hL9 ht40 h hI9 (by omega) hd hw9 (lv_sub hl [0, 5, 6, 7, 2, 8, 9, 10, 11, 12, 13, 14, 15, 16, 17, 18] rfl) K7
              · exact br_make1 l hl0 C hE hL9 ht40 h hI9 (by omega) hd hw9 (by omega) (lv_sub hl [0, 3, 5, 6, 7, 2, 8, 9, 10, 11, 12, 13, 14, 15, 16, 17, 18] rfl) K7
          · exact br_rc l hl0 C hE hL9 ht40 h hI9 (by omega) hd hw9 (lv_sub hl [0, 3, 4, 5, 6, 7, 2, 8, 9, 10, 11, 12, 13, 14, 15, 16, 17, 18] rfl) K7
        · exact br_pass l hl0 C hE hL9 ht40 h hI9 (by omega) hd hw9 (lv_sub hl [0, 3, 4, 5, 6, 7, 2, 8, 9, 10, 11, 12, 13, 14, 15, 16, 17, 18] rfl) K7
      · exact br_rate l hl0 C hE hL9 ht40 h hI9 (by omega) hd hw9 (by omega) (lv_sub hl [0, 3, 4, 5, 6, 7, 2, 8, 9, 10, 11, 12, 13, 14, 15, 16, 17, 18] rfl) K7

set_option maxHeartbeats 4000000 in
set_option maxRecDepth 100000 in
theorem br_turns {p : Program} {e : Env} {s : State} {m : MethodId} {below : List Frame} {meth : Method} {c : Code} (l : Launch) (hl0 : l.stackTraces = false) {D : va_G} {cy : Nat → ClassId} {b L : Nat} {xs : Nat → Int32} (C : xCx p m c code 31 s #[Value.ref b] RL D cy) (hr : meth.sig.returnType = ret) (hlocks : meth.locks = false) (hE : xScr b L xs (lwA s) s s.heap) (hL9 : L ≤ 260) (bd : Nat) : ∀ r t, t + r = 40 → K98 p l e s m below meth c D cy b bd t := by
  intro r
  induction r with
  | zero =>
    intro t ht ad Ls st H locs ls at9 d n mB nn ln hat hd h hI hl
    have hx := C.1; have hb := C.2.1
    refine lv_iload hx hb dL_law_198 (lv_at hl 14 rfl) ?_
    refine lv_bipush (v := nI 40) hx hb dL_law_200 (by decide) ?_
    refine x_icmpN_ge (tgt := 1649) hx hb dL_law_202 (by decide) (by omega) (by decide) (fun _ => ?_) (fun q => absurd q (by omega))
    refine lv_iconst (v := 1) hx hb dL_law_1649 (by decide) ?_
    refine W.widen (k := 754712) (n := 6837489) (by omega) (by omega) ?_
    refine va_forget (fun q hq => h.2.2.1.2.2 q hq) ?_
    exact lw_ret hx hb hr hlocks dL_law_1650
  | succ r ih =>
    intro t ht ad Ls st H locs ls at9 d n mB nn ln hat hd h hI hl
    exact br_turn (p9 := 0) l hl0 C hE hL9 (by omega) h hI hat hd hl (ih (t + 1) (by omega))
