set_option maxHeartbeats 4000000 in
set_option maxRecDepth 100000 in
theorem br_make1 {p : Program} {e : Env} {s : State} {m : MethodId} {below : List Frame} {meth : Method} {c : Code} (l : Launch) (hl0 : l.stackTraces = false) {D : va_G} {cy : Nat → ClassId} {b L : Nat} {xs : Nat → Int32} (C : xCx p m c code 31 s #[Value.ref b] RL D cy) (hE : xScr b L xs (lwA s) s s.heap) (hL9 : L ≤ 260) {t : Nat} (ht40 : t < 40) {ad : Nat → Nat} {Ls : List Nat} {st : XS} {H : Heap} {locs : List Loc} {ls : Array Slot} {bd at9 d n mB nn p9 : Nat} {ln : Nat → Nat} (h : xH D cy ad Ls (lwA s) s st H locs) (hI : PI Ls st bd d n mB nn ln) (hat : at9 ≤ 3 + 5 * t) (hd : d ≤ 4 * t) (hp2 : p9 < 2) (hmB : mB < 7) {y9 : Int32} (hl : lv_has ls 31 [(20, .int (nI p9)), (18, .int y9), (0, .ref b), (1, .ref (ad 0)), (2, .int (nI bd)), (3, .int (nI at9)), (6, .ref (ad 31)), (7, .ref (ad 32)), (8, .ref (ad 33)), (9, .ref (ad 34)), (10, .ref (ad 35)), (11, .ref (ad 36)), (12, .int (nI d)), (13, .int (nI n)), (14, .int (nI mB)), (15, .int (nI nn)), (16, .int (nI t))]) (K : K78 p l e s m below meth c D cy b bd t) : W p l e room_1 s m #[Value.ref b] below meth c H locs (1000 + 4000 * t) (10000 + 40000 * t) (lw_Z below #[Value.ref b] s) (F0 m 503 ls []) := by
  have hx := C.1
  have hb := C.2.1
  have hI9 := hI
  obtain ⟨hA9, hPR, hPM, hPD, hPB, hPN, hPF⟩ := hI
  have hL := hA9.1
  have hR9 := hA9.2.1
  have hm7 : mB ≤ 7 := hA9.2.2.2.2.2.2.2.2
  have hn15 := hPR.1
  refine lv_iconst (v := nI 1) hx hb dL_law_503 (by decide) ?_
  refine lv_iload hx hb dL_law_504 (lv_at hl 1 rfl) ?_
  refine lv_iconst (v := nI 3) hx hb dL_law_506 (by decide) ?_
  refine cl_L_37 C h (c_L_low l D cy ad Ls st y9 3 (by omega) (by omega)) (by decide) ⟨by show _ ≤ 754712; omega, by show _ ≤ 6837489; omega⟩ hl.1 (Nat.le_of_ble_eq_true rfl) dL_law_507 (fun r2 u1 H locs hp h => ?_)
  obtain ⟨er2, eu1⟩ := hp; rw [eu1] at h; clear eu1 u1; refine x_topi er2 ?_; clear er2 r2
  obtain ⟨w3, ew3⟩ : ∃ z9, z9 = lowN y9 3 := ⟨_, rfl⟩; have hw3 : w3 < 3 := (by rw [ew3]; exact lowN_lt (by omega)); rw [← ew3]; clear ew3
  refine x_addN hx hb dL_law_510 ?_
  refine lv_istore (lv' := [(21, .int (nI (1 + w3))), (20, .int (nI p9)), (18, .int y9), (0, .ref b), (1, .ref (ad 0)), (2, .int (nI bd)), (3, .int (nI at9)), (6, .ref (ad 31)), (7, .ref (ad 32)), (8, .ref (ad 33)), (9, .ref (ad 34)), (10, .ref (ad 35)), (11, .ref (ad 36)), (12, .int (nI d)), (13, .int (nI n)), (14, .int (nI mB)), (15, .int (nI nn)), (16, .int (nI t))]) hx hb dL_law_511 hl (by decide) rfl (fun ls hl => ?_)
  refine lv_iload hx hb dL_law_513 (lv_at hl 2 rfl) ?_
  refine lv_iconst (v := nI 2) hx hb dL_law_515 (by decide) ?_
  refine lv_ishr hx hb dL_law_516 ?_
  refine lv_topi (fun y4 ey4 => ?_)
  refine lv_iconst (v := nI 3) hx hb dL_law_517 (by decide) ?_
  refine cl_L_37 C h (c_L_low l D cy ad Ls st y4 3 (by omega) (by omega)) (by decide) ⟨by show _ ≤ 754712; omega, by show _ ≤ 6837489; omega⟩ hl.1 (Nat.le_of_ble_eq_true rfl) dL_law_518 (fun r6 u5 H locs hp h => ?_)
  obtain ⟨er6, eu5⟩ := hp; rw [eu5] at h; clear eu5 u5; refine x_topi er6 ?_; clear er6 r6
  obtain ⟨w7, ew7⟩ : ∃ z9, z9 = lowN y4 3 := ⟨_, rfl⟩; have hw7 : w7 < 3 := (by rw [ew7]; exact lowN_lt (by omega)); rw [← ew7]; clear ew7
  refine lv_istore (lv' := [(22, .int (nI w7)), (21, .int (nI (1 + w3))), (20, .int (nI p9)), (18, .int y9), (0, .ref b), (1, .ref (ad 0)), (2, .int (nI bd)), (3, .int (nI at9)), (6, .ref (ad 31)), (7, .ref (ad 32)), (8, .ref (ad 33)), (9, .ref (ad 34)), (10, .ref (ad 35)), (11, .ref (ad 36)), (12, .int (nI d)), (13, .int (nI n)), (14, .int (nI mB)), (15, .int (nI nn)), (16, .int (nI t))]) hx hb dL_law_521 hl (by decide) rfl (fun ls hl => ?_)
  obtain ⟨pl, hpl, e8⟩ := hPM.2.2.2.1 w7 (by omega)
  have e35 : ga st 35 w7 = nI pl := (hPM.2.2.2.2 w7 (by omega)).trans e8
  obtain ⟨w, hw, e7⟩ := hPM.2.1 pl (by omega)
  have e36 : ga st 36 pl = nI w := (hPM.2.2.1 pl hpl).trans e7
  obtain ⟨mn, hmn⟩ : ∃ z9, z9 = (1 + w3) := ⟨_, rfl⟩
  have hmn1 : 0 < mn ∧ mn ≤ 3 := by omega
  rw [← hmn] at hl
  refine lv_aload hx hb dL_law_523 (lv_at hl 9 rfl) ?_
  refine lv_bipush (v := nI 7) hx hb dL_law_525 (by decide) ?_
  refine lv_iload hx hb dL_law_527 (lv_at hl 16 rfl) ?_
  refine x_mulN hx hb dL_law_529 ?_
  refine lv_iload hx hb dL_law_530 (lv_at hl 0 rfl) ?_
  refine x_ast C h (hR9 32 (by decide) (by decide)) (n := 64) rfl (7 * mB) (by omega) (by decide) rfl dL_law_532 (fun H locs u8 eu8 h => ?_)
  refine lv_aload hx hb dL_law_533 (lv_at hl 9 rfl) ?_
  refine lv_bipush (v := nI 7) hx hb dL_law_535 (by decide) ?_
  refine lv_iload hx hb dL_law_537 (lv_at hl 16 rfl) ?_
  refine x_mulN hx hb dL_law_539 ?_
  refine lv_iconst (v := nI 1) hx hb dL_law_540 (by decide) ?_
  refine x_addN hx hb dL_law_541 ?_
  refine lv_iload hx hb dL_law_542 (lv_at hl 14 rfl) ?_
  refine x_ast C h (hR9 32 (by decide) (by decide)) (n := 64) rfl ((7 * mB) + 1) (by omega) (by decide) rfl dL_law_544 (fun H locs u9 eu9 h => ?_)
  refine lv_aload hx hb dL_law_545 (lv_at hl 9 rfl) ?_
  refine lv_bipush (v := nI 7) hx hb dL_law_547 (by decide) ?_
  refine lv_iload hx hb dL_law_549 (lv_at hl 16 rfl) ?_
  refine x_mulN hx hb dL_law_551 ?_
  refine lv_iconst (v := nI 2) hx hb dL_law_552 (by decide) ?_
  refine x_addN hx hb dL_law_553 ?_
  refine lv_iload hx hb dL_law_554 (lv_at hl 1 rfl) ?_
  refine x_ast C h (hR9 32 (by decide) (by decide)) (n := 64) rfl ((7 * mB) + 2) (by omega) (by decide) rfl dL_law_556 (fun H locs u10 eu10 h => ?_)
  refine lv_aload hx hb dL_law_557 (lv_at hl 9 rfl) ?_
  refine lv_bipush (v := nI 7) hx hb dL_law_559 (by decide) ?_
  refine lv_iload hx hb dL_law_561 (lv_at hl 16 rfl) ?_
  refine x_mulN hx hb dL_law_563 ?_
  refine lv_iconst (v := nI 3) hx hb dL_law_564 (by decide) ?_
  refine x_addN hx hb dL_law_565 ?_
  refine lv_aload hx hb dL_law_566 (lv_at hl 12 rfl) ?_
  refine lv_iload hx hb dL_law_568 (lv_at hl 0 rfl) ?_
  refine x_ald C h (hR9 35 (by decide) (by decide)) (n := 16) rfl w7 (by omega) (by decide) rfl dL_law_570 ?_
  refine x_topi (y := nI pl) (by rw [eu10, eu9, eu8]; exact e35) ?_
  refine x_ast C h (hR9 32 (by decide) (by decide)) (n := 64) rfl ((7 * mB) + 3) (by omega) (by decide) rfl dL_law_571 (fun H locs u11 eu11 h => ?_)
  refine lv_aload hx hb dL_law_572 (lv_at hl 9 rfl) ?_
  refine lv_bipush (v := nI 7) hx hb dL_law_574 (by decide) ?_
  refine lv_iload hx hb dL_law_576 (lv_at hl 16 rfl) ?_
  refine x_mulN hx hb dL_law_578 ?_
  refine lv_iconst (v := nI 4) hx hb dL_law_579 (by decide) ?_
  refine x_addN hx hb dL_law_580 ?_
  refine lv_aload hx hb dL_law_581 (lv_at hl 13 rfl) ?_
  refine lv_aload hx hb dL_law_583 (lv_at hl 12 rfl) ?_
  refine lv_iload hx hb dL_law_585 (lv_at hl 0 rfl) ?_
  refine x_ald C h (hR9 35 (by decide) (by decide)) (n := 16) rfl w7 (by omega) (by decide) rfl dL_law_587 ?_
  refine x_topi (y := nI pl) (by rw [eu11, eu10, eu9, eu8]; exact e35) ?_
  refine x_ald C h (hR9 36 (by decide) (by decide)) (n := 4) rfl pl (by omega) (by decide) rfl dL_law_588 ?_
  refine x_topi (y := nI w) (by rw [eu11, eu10, eu9, eu8]; exact e36) ?_
  refine x_ast C h (hR9 32 (by decide) (by decide)) (n := 64) rfl ((7 * mB) + 4) (by omega) (by decide) rfl dL_law_589 (fun H locs u12 eu12 h => ?_)
  obtain ⟨g9, hg9⟩ : ∃ g9, g9 = upd (upd (upd (upd (upd (ga st 32) (7 * mB) (nI w7)) (7 * mB + 1) (nI d)) (7 * mB + 2) (nI mn)) (7 * mB + 3) (nI pl)) (7 * mB + 4) (nI w) := ⟨_, rfl⟩
  have hv5 : u12 = sa st 32 g9 := by rw [eu12, eu11, eu10, eu9, eu8, hg9]; simp only [ga_self, sa_sa]
  refine lv_iconst (v := nI 4) hx hb dL_law_590 (by decide) ?_
  refine x_mkI C h (by rw [hv5]; exact hA9.2.2.2.2.2.1) (k := 50 + mB) (hA9.2.2.2.2.2.2.2.1 mB (Nat.le_refl _) hmB) (n := 4) (kd_50 hmB) (by decide) (by show _ ≤ 754712; omega) (by show _ ≤ 6837489; omega) dL_law_591 (fun ad2 H had h hcl0 => ?_)
  obtain ⟨v0, ev0⟩ : ∃ z9, z9 = sa u12 (50 + mB) (fun _ => 0) := ⟨_, rfl⟩; rw [← ev0] at h hcl0
  have hv0 : v0 = sa (sa st 32 g9) (50 + mB) (fun _ => 0) := by rw [ev0, hv5]
  have hl : lv_has ls 31 [(22, .int (nI w7)), (21, .int (nI mn)), (20, .int (nI p9)), (18, .int y9), (0, .ref b), (1, .ref (ad2 0)), (2, .int (nI bd)), (3, .int (nI at9)), (6, .ref (ad2 31)), (7, .ref (ad2 32)), (8, .ref (ad2 33)), (9, .ref (ad2 34)), (10, .ref (ad2 35)), (11, .ref (ad2 36)), (12, .int (nI d)), (13, .int (nI n)), (14, .int (nI mB)), (15, .int (nI nn)), (16, .int (nI t))] := by rw [had 0 (hL 0 rfl), had 31 (hR9 31 (by decide) (by decide)), had 32 (hR9 32 (by decide) (by decide)), had 33 (hR9 33 (by decide) (by decide)), had 34 (hR9 34 (by decide) (by decide)), had 35 (hR9 35 (by decide) (by decide)), had 36 (hR9 36 (by decide) (by decide))]; exact hl
  obtain ⟨hI0, hW0⟩ := PI_open hI9 hmB (by omega) hpl hw e8 e7 hg9 hv0
  refine lv_astore (lv' := [(23, .ref (ad2 (50 + mB))), (22, .int (nI w7)), (21, .int (nI mn)), (20, .int (nI p9)), (18, .int y9), (0, .ref b), (1, .ref (ad2 0)), (2, .int (nI bd)), (3, .int (nI at9)), (6, .ref (ad2 31)), (7, .ref (ad2 32)), (8, .ref (ad2 33)), (9, .ref (ad2 34)), (10, .ref (ad2 35)), (11, .ref (ad2 36)), (12, .int (nI d)), (13, .int (nI n)), (14, .int (nI mB)), (15, .int (nI nn)), (16, .int (nI t))]) hx hb dL_law_593 hl (by decide) rfl (fun ls hl => ?_)
  refine lv_iconst (v := nI 0) hx hb dL_law_595 (by decide) ?_
  refine lv_istore (lv' := [(24, .int (nI 0)), (23, .ref (ad2 (50 + mB))), (22, .int (nI w7)), (21, .int (nI mn)), (20, .int (nI p9)), (18, .int y9), (0, .ref b), (1, .ref (ad2 0)), (2, .int (nI bd)), (3, .int (nI at9)), (6, .ref (ad2 31)), (7, .ref (ad2 32)), (8, .ref (ad2 33)), (9, .ref (ad2 34)), (10, .ref (ad2 35)), (11, .ref (ad2 36)), (12, .int (nI d)), (13, .int (nI n)), (14, .int (nI mB)), (15, .int (nI nn)), (16, .int (nI t))]) hx hb dL_law_596 hl (by decide) rfl (fun ls hl => ?_)
  refine lv_iconst (v := nI 0) hx hb dL_law_598 (by decide) ?_
  refine lv_istore (lv' := [(25, .int (nI 0)), (24, .int (nI 0)), (23, .ref (ad2 (50 + mB))), (22, .int (nI w7)), (21, .int (nI mn)), (20, .int (nI p9)), (18, .int y9), (0, .ref b), (1, .ref (ad2 0)), (2, .int (nI bd)), (3, .int (nI at9)), (6, .ref (ad2 31)), (7, .ref (ad2 32)), (8, .ref (ad2 33)), (9, .ref (ad2 34)), (10, .ref (ad2 35)), (11, .ref (ad2 36)), (12, .int (nI d)), (13, .int (nI n)), (14, .int (nI mB)), (15, .int (nI nn)), (16, .int (nI t))]) hx hb dL_law_599 hl (by decide) rfl (fun ls hl => ?_)
  have L601 : ∀ (N601 : Nat) (v : XS) (k : Nat) (sm : Nat) (hv : PI0 v bd d n mB nn k ln) (hkm : k ≤ mn) (hW : RW v mB d mn w7 pl w) (hby : ∀ j, j < k → ga v (50 + mB) j = oI (knoS v n (nI pl) (nI (kN v mB j)) (nI d))) (hsm : sumA (bQ v mB) (bP v mB) k = nI sm) (hs9 : sm ≤ k * 989901) (hcl1 : xCl v (Ls ++ [50 + mB])) (hAv : PA Ls mB v) (hN : mn - k < N601) (H : Heap) (locs : List Loc) (ls : Array Slot), xH D cy ad2 (Ls ++ [50 + mB]) (lwA s) s v H locs → lv_has ls 31 [(0, .ref b), (1, .ref (ad2 0)), (2, .int (nI bd)), (3, .int (nI at9)), (6, .ref (ad2 31)), (7, .ref (ad2 32)), (8, .ref (ad2 33)), (9, .ref (ad2 34)), (10, .ref (ad2 35)), (11, .ref (ad2 36)), (12, .int (nI d)), (13, .int (nI n)), (14, .int (nI mB)), (15, .int (nI nn)), (16, .int (nI t)), (20, .int (nI p9)), (21, .int (nI mn)), (22, .int (nI w7)), (23, .ref (ad2 (50 + mB))), (24, .int (nI sm)), (25, .int (nI k))] → W p l e room_1 s m #[Value.ref b] below meth c H locs (1001 + 4000 * t + 4 * k) (10004 + 40000 * t + 24 * k) (lw_Z below #[Value.ref b] s) (F0 m 601 ls []) := by
    intro N601
    induction N601 with
    | zero => intro v k sm hv hkm hW hby hsm hs9 hcl1 hAv hN; omega
    | succ N601 ih601 =>
      intro v k sm hv hkm hW hby hsm hs9 hcl1 hAv hN H locs ls h hl
      refine lv_iload hx hb dL_law_601 (lv_at hl 20 rfl) ?_
      refine lv_iload hx hb dL_law_603 (lv_at hl 16 rfl) ?_
      refine x_icmpN_ge (tgt := 809) hx hb dL_law_605 (by decide) (by omega) (by omega) (fun c605 => ?_) (fun c605 => ?_)
      · have hkm2 : k = mn := by omega
        rw [hkm2] at hv hby hsm hs9 hl
        refine W.widen (k := 1101 + 4000 * t) (n := 10104 + 40000 * t) (by omega) (by omega) ?_
        exact br_make2 l hl0 C hE hL9 ht40 h hAv hv hcl1 hat hd hp2 hmB hmn1.1 hW hby hsm hs9 (lv_sub hl [0, 1, 2, 3, 4, 5, 6, 7, 8, 9, 10, 11, 12, 13, 14, 15, 16, 17, 18, 19, 20] rfl) K
      · have hkmn : k < mn := by omega
        have hk3 : k < 3 := by omega
        have e35v : ga v 35 w7 = nI pl := (hv.2.1.2.2.2.2 w7 (by omega)).trans hW.2.2.2.1
        refine lv_aload_n hx hb dL_law_608 rfl (lv_at hl 0 rfl) ?_
        refine lv_iload_n hx hb dL_law_609 rfl (lv_at hl 3 rfl) ?_
        refine lv_iload hx hb dL_law_610 (lv_at hl 20 rfl) ?_
        refine x_addN hx hb dL_law_612 ?_
        refine cc_L_33 C h hE (by omega) (k := (at9 + k)) (by omega) (by decide) ⟨by show _ ≤ 754712; omega, by show _ ≤ 6837489; omega⟩ hl.1 (Nat.le_of_ble_eq_true rfl) dL_law_613 (fun H locs h => ?_)
        refine lv_topi (fun x13 ex13 => ?_); clear ex13
        refine lv_istore (lv' := [(26, .int x13), (0, .ref b), (1, .ref (ad2 0)), (2, .int (nI bd)), (3, .int (nI at9)), (6, .ref (ad2 31)), (7, .ref (ad2 32)), (8, .ref (ad2 33)), (9, .ref (ad2 34)), (10, .ref (ad2 35)), (11, .ref (ad2 36)), (12, .int (nI d)), (13, .int (nI n)), (14, .int (nI mB)), (15, .int (nI nn)), (16, .int (nI t)), (20, .int (nI p9)), (21, .int (nI mn)), (22, .int (nI w7)), (23, .ref (ad2 (50 + mB))), (24, .int (nI sm)), (25, .int (nI k))]) hx hb dL_law_616 hl (by decide) rfl (fun ls hl => ?_)
        refine lv_bipush (v := nI 9) hx hb dL_law_618 (by decide) ?_
        refine lv_iload hx hb dL_law_620 (lv_at hl 13 rfl) ?_
        refine x_mulN hx hb dL_law_622 ?_
        refine lv_iconst (v := nI 3) hx hb dL_law_623 (by decide) ?_
        refine lv_iload hx hb dL_law_624 (lv_at hl 21 rfl) ?_
        refine x_mulN hx hb dL_law_626 ?_
        refine x_addN hx hb dL_law_627 ?_
        refine lv_istore (lv' := [(27, .int (nI ((9 * mB) + (3 * k)))), (26, .int x13), (0, .ref b), (1, .ref (ad2 0)), (2, .int (nI bd)), (3, .int (nI at9)), (6, .ref (ad2 31)), (7, .ref (ad2 32)), (8, .ref (ad2 33)), (9, .ref (ad2 34)), (10, .ref (ad2 35)), (11, .ref (ad2 36)), (12, .int (nI d)), (13, .int (nI n)), (14, .int (nI mB)), (15, .int (nI nn)), (16, .int (nI t)), (20, .int (nI p9)), (21, .int (nI mn)), (22, .int (nI w7)), (23, .ref (ad2 (50 + mB))), (24, .int (nI sm)), (25, .int (nI k))]) hx hb dL_law_628 hl (by decide) rfl (fun ls hl => ?_)
        refine lv_aload hx hb dL_law_630 (lv_at hl 8 rfl) ?_
        refine lv_iload hx hb dL_law_632 (lv_at hl 0 rfl) ?_
        refine lv_iload hx hb dL_law_634 (lv_at hl 1 rfl) ?_
        refine lv_iconst (v := nI 3) hx hb dL_law_636 (by decide) ?_
        refine cl_L_37 C h (c_L_low l D cy ad2 (Ls ++ [50 + mB]) v x13 3 (by omega) (by omega)) (by decide) ⟨by show _ ≤ 754712; omega, by show _ ≤ 6837489; omega⟩ hl.1 (Nat.le_of_ble_eq_true rfl) dL_law_637 (fun r15 u14 H locs hp h => ?_)
        obtain ⟨er15, eu14⟩ := hp; rw [eu14] at h; clear eu14 u14; refine x_topi er15 ?_; clear er15 r15
        obtain ⟨w16, ew16⟩ : ∃ z9, z9 = lowN x13 3 := ⟨_, rfl⟩; have hw16 : w16 < 3 := (by rw [ew16]; exact lowN_lt (by omega)); rw [← ew16]; clear ew16
        refine x_ast C h (List.mem_append_left _ (hR9 33 (by decide) (by decide))) (n := 64) rfl ((9 * mB) + (3 * k)) (by omega) (by decide) rfl dL_law_640 (fun H locs u17 eu17 h => ?_)
        refine lv_aload hx hb dL_law_641 (lv_at hl 8 rfl) ?_
        refine lv_iload hx hb dL_law_643 (lv_at hl 0 rfl) ?_
        refine lv_iconst (v := nI 1) hx hb dL_law_645 (by decide) ?_
        refine x_addN hx hb dL_law_646 ?_
        refine lv_iconst (v := nI 1) hx hb dL_law_647 (by decide) ?_
        refine lv_iload hx hb dL_law_648 (lv_at hl 1 rfl) ?_
        refine lv_iconst (v := nI 3) hx hb dL_law_650 (by decide) ?_
        refine lv_ishr hx hb dL_law_651 ?_
        refine lv_topi (fun y18 ey18 => ?_)
        refine lv_iload hx hb dL_law_652 (lv_at hl 1 rfl) ?_
        refine lv_iconst (v := nI 2) hx hb dL_law_654 (by decide) ?_
        refine lv_ishr hx hb dL_law_655 ?_
        refine lv_topi (fun y19 ey19 => ?_)
        refine lv_iconst (v := nI 2) hx hb dL_law_656 (by decide) ?_
        refine cl_L_37 C h (c_L_low l D cy ad2 (Ls ++ [50 + mB]) u17 y19 2 (by omega) (by omega)) (by decide) ⟨by show _ ≤ 754712; omega, by show _ ≤ 6837489; omega⟩ hl.1 (Nat.le_of_ble_eq_true rfl) dL_law_657 (fun r21 u20 H locs hp h => ?_)
        obtain ⟨er21, eu20⟩ := hp; rw [eu20] at h; clear eu20 u20; refine x_topi er21 ?_; clear er21 r21
        obtain ⟨w22, ew22⟩ : ∃ z9, z9 = lowN y19 2 := ⟨_, rfl⟩; have hw22 : w22 < 2 := (by rw [ew22]; exact lowN_lt (by omega)); rw [← ew22]; clear ew22
        refine x_ifN_ne (tgt := 668) hx hb dL_law_660 (by decide) (by omega) (fun c660 => ?_) (fun c660 => ?_)
        · refine lv_bipush (v := nI 99) hx hb dL_law_668 (by decide) ?_
          refine cl_L_37 C h (c_L_low l D cy ad2 (Ls ++ [50 + mB]) u17 y18 99 (by omega) (by omega)) (by decide) ⟨by show _ ≤ 754712; omega, by show _ ≤ 6837489; omega⟩ hl.1 (Nat.le_of_ble_eq_true rfl) dL_law_670 (fun r24 u23 H locs hp h => ?_)
          obtain ⟨er24, eu23⟩ := hp; rw [eu23] at h; clear eu23 u23; refine x_topi er24 ?_; clear er24 r24
          obtain ⟨w25, ew25⟩ : ∃ z9, z9 = lowN y18 99 := ⟨_, rfl⟩; have hw25 : w25 < 99 := (by rw [ew25]; exact lowN_lt (by omega)); rw [← ew25]; clear ew25
          refine x_addN hx hb dL_law_673 ?_
          refine x_ast C h (List.mem_append_left _ (hR9 33 (by decide) (by decide))) (n := 64) rfl (((9 * mB) + (3 * k)) + 1) (by omega) (by decide) rfl dL_law_674 (fun H locs u26 eu26 h => ?_)
          refine lv_aload hx hb dL_law_675 (lv_at hl 8 rfl) ?_
          refine lv_iload hx hb dL_law_677 (lv_at hl 0 rfl) ?_
          refine lv_iconst (v := nI 2) hx hb dL_law_679 (by decide) ?_
          refine x_addN hx hb dL_law_680 ?_
          refine lv_iconst (v := nI 1) hx hb dL_law_681 (by decide) ?_
          refine lv_iload hx hb dL_law_682 (lv_at hl 1 rfl) ?_
          refine lv_bipush (v := nI 10) hx hb dL_law_684 (by decide) ?_
          refine lv_ishr hx hb dL_law_686 ?_
          refine lv_topi (fun y27 ey27 => ?_)
          refine lv_iload hx hb dL_law_687 (lv_at hl 1 rfl) ?_
          refine lv_bipush (v := nI 9) hx hb dL_law_689 (by decide) ?_
          refine lv_ishr hx hb dL_law_691 ?_
          refine lv_topi (fun y28 ey28 => ?_)
          refine lv_iconst (v := nI 2) hx hb dL_law_692 (by decide) ?_
          refine cl_L_37 C h (c_L_low l D cy ad2 (Ls ++ [50 + mB]) u26 y28 2 (by omega) (by omega)) (by decide) ⟨by show _ ≤ 754712; omega, by show _ ≤ 6837489; omega⟩ hl.1 (Nat.le_of_ble_eq_true rfl) dL_law_693 (fun r30 u29 H locs hp h => ?_)
          obtain ⟨er30, eu29⟩ := hp; rw [eu29] at h; clear eu29 u29; refine x_topi er30 ?_; clear er30 r30
          obtain ⟨w31, ew31⟩ : ∃ z9, z9 = lowN y28 2 := ⟨_, rfl⟩; have hw31 : w31 < 2 := (by rw [ew31]; exact lowN_lt (by omega)); rw [← ew31]; clear ew31
          refine x_ifN_ne (tgt := 704) hx hb dL_law_696 (by decide) (by omega) (fun c696 => ?_) (fun c696 => ?_)
          · refine lv_sipush (v := nI 9999) hx hb dL_law_704 (by decide) ?_
            refine cl_L_37 C h (c_L_low l D cy ad2 (Ls ++ [50 + mB]) u26 y27 9999 (by omega) (by omega)) (by decide) ⟨by show _ ≤ 754712; omega, by show _ ≤ 6837489; omega⟩ hl.1 (Nat.le_of_ble_eq_true rfl) dL_law_707 (fun r33 u32 H locs hp h => ?_)
            obtain ⟨er33, eu32⟩ := hp; rw [eu32] at h; clear eu32 u32; refine x_topi er33 ?_; clear er33 r33
            obtain ⟨w34, ew34⟩ : ∃ z9, z9 = lowN y27 9999 := ⟨_, rfl⟩; have hw34 : w34 < 9999 := (by rw [ew34]; exact lowN_lt (by omega)); rw [← ew34]; clear ew34
            refine x_addN hx hb dL_law_710 ?_
            refine x_ast C h (List.mem_append_left _ (hR9 33 (by decide) (by decide))) (n := 64) rfl (((9 * mB) + (3 * k)) + 2) (by omega) (by decide) rfl dL_law_711 (fun H locs u35 eu35 h => ?_)
            obtain ⟨g8, hg8⟩ : ∃ g8, g8 = upd (upd (upd (ga v 33) (9 * mB + 3 * k) (nI w16)) (9 * mB + 3 * k + 1) (nI (1 + w25))) (9 * mB + 3 * k + 2) (nI (1 + w34)) := ⟨_, rfl⟩
            have hv3 : u35 = sa v 33 g8 := by rw [eu35, eu26, eu17, hg8]; simp only [ga_self, sa_sa]
            obtain ⟨g0, g1, g2, -⟩ := upd3 hg8
            refine lv_aload_n hx hb dL_law_712 rfl (lv_at hl 3 rfl) ?_
            refine lv_aload hx hb dL_law_713 (lv_at hl 8 rfl) ?_
            refine lv_iload hx hb dL_law_715 (lv_at hl 0 rfl) ?_
            refine x_ald C h (List.mem_append_left _ (hR9 33 (by decide) (by decide))) (n := 64) rfl ((9 * mB) + (3 * k)) (by omega) (by decide) rfl dL_law_717 ?_
            refine x_topi (y := nI w16) (by rw [hv3, ga_self]; exact g0) ?_
            refine lv_aload hx hb dL_law_718 (lv_at hl 8 rfl) ?_
            refine lv_iload hx hb dL_law_720 (lv_at hl 0 rfl) ?_
            refine lv_iconst (v := nI 1) hx hb dL_law_722 (by decide) ?_
            refine x_addN hx hb dL_law_723 ?_
            refine x_ald C h (List.mem_append_left _ (hR9 33 (by decide) (by decide))) (n := 64) rfl (((9 * mB) + (3 * k)) + 1) (by omega) (by decide) rfl dL_law_724 ?_
            refine x_topi (y := nI (1 + w25)) (by rw [hv3, ga_self]; exact g1) ?_
            refine lv_aload hx hb dL_law_725 (lv_at hl 8 rfl) ?_
            refine lv_iload hx hb dL_law_727 (lv_at hl 0 rfl) ?_
            refine lv_iconst (v := nI 2) hx hb dL_law_729 (by decide) ?_
            refine x_addN hx hb dL_law_730 ?_
            refine x_ald C h (List.mem_append_left _ (hR9 33 (by decide) (by decide))) (n := 64) rfl (((9 * mB) + (3 * k)) + 2) (by omega) (by decide) rfl dL_law_731 ?_
            refine x_topi (y := nI (1 + w34)) (by rw [hv3, ga_self]; exact g2) ?_
            refine cx_L_76 C h (List.mem_append_left _ (hL 0 rfl)) rfl (c_X7_line l hl0 D cy ad2 (Ls ++ [50 + mB]) u35 (fun k9 hk9 => List.mem_append_left _ (hL k9 hk9)) mB (by omega) (fun j hj => List.mem_append_left _ (hA9.2.2.1 mB (Nat.le_refl _) j hj)) k (by omega) (by rw [hv3]; exact hv.2.2.1.2.2.2.1) (by rw [hv3]; exact hv.2.2.1.2.1) (nI w16) (nI (1 + w25)) (nI (1 + w34))) (by decide) ⟨by show _ ≤ 754712; omega, by show _ ≤ 6837489; omega⟩ hl.1 (Nat.le_of_ble_eq_true rfl) dL_law_732 (x_noX (kLine_0 (by omega) (by omega) (by omega) (by omega) (by omega) (by omega))) (fun r37 u36 H locs hp h => ?_)
            obtain ⟨-, er, hu4⟩ := hp; refine x_topi er ?_; clear er r37
            have hlo4 : ∀ x, x < 50 → ¬ x = 33 → ga u36 x = ga v x := fun x q1 q2 => by rw [hu4, ga_si, ga_sa, if_neg (by omega), ga_sa, if_neg (by omega), ga_sa, if_neg (by omega), hv3, ga_sa, if_neg q2]
            refine lv_iload hx hb dL_law_735 (lv_at hl 22 rfl) ?_
            refine lv_iconst (v := nI 1) hx hb dL_law_737 (by decide) ?_
            refine x_addN hx hb dL_law_738 ?_
            refine x_icmp_eq_t (tgt := 744) hx hb dL_law_739 (by decide) rfl ?_
            refine lv_aload hx hb dL_law_744 (lv_at hl 20 rfl) ?_
            refine lv_iload hx hb dL_law_746 (lv_at hl 22 rfl) ?_
            refine lv_aload hx hb dL_law_748 (lv_at hl 6 rfl) ?_
            refine lv_iload hx hb dL_law_750 (lv_at hl 13 rfl) ?_
            refine lv_aload hx hb dL_law_752 (lv_at hl 10 rfl) ?_
            refine lv_iload hx hb dL_law_754 (lv_at hl 19 rfl) ?_
            refine x_ald C h (List.mem_append_left _ (hR9 35 (by decide) (by decide))) (n := 16) rfl w7 (by omega) (by decide) rfl dL_law_756 ?_
            refine x_topi (y := nI pl) (by rw [hlo4 35 (by decide) (by decide)]; exact e35v) ?_
            refine lv_aload hx hb dL_law_757 (lv_at hl 8 rfl) ?_
            refine lv_iload hx hb dL_law_759 (lv_at hl 0 rfl) ?_
            refine x_ald C h (List.mem_append_left _ (hR9 33 (by decide) (by decide))) (n := 64) rfl ((9 * mB) + (3 * k)) (by omega) (by decide) rfl dL_law_761 ?_
            refine x_topi (y := nI w16) (by rw [hu4, ga_si, ga_sa, if_neg (by omega), ga_sa, if_neg (by omega), ga_sa, if_neg (by omega), hv3, ga_self]; exact g0) ?_
            refine lv_iload hx hb dL_law_762 (lv_at hl 12 rfl) ?_
            refine cl_L_10 C h (c_L_telling l D cy ad2 (Ls ++ [50 + mB]) u36 (List.mem_append_left _ (hR9 31 (by decide) (by decide))) n hn15 (by rw [hlo4 31 (by decide) (by decide), hlo4 13 (by decide) (by decide), hlo4 14 (by decide) (by decide), hlo4 15 (by decide) (by decide), hlo4 16 (by decide) (by decide)]; exact hv.1.2.2) (nI pl) (nI w16) (nI d)) (by decide) ⟨by show _ ≤ 754712; omega, by show _ ≤ 6837489; omega⟩ hl.1 (Nat.le_of_ble_eq_true rfl) dL_law_764 (fun r39 u38 H locs hp h => ?_)
            obtain ⟨er39, eu38⟩ := hp; rw [eu38] at h; clear eu38 u38; refine x_topi er39 ?_; clear er39 r39
            refine x_ast C h (List.mem_append_right _ (List.mem_singleton.mpr rfl)) (n := 4) (kd_50 hmB) k (by omega) (by decide) rfl dL_law_767 (fun H locs u40 eu40 h => ?_)
            refine lv_aload hx hb dL_law_768 (lv_at hl 9 rfl) ?_
            refine lv_iconst (v := nI 3) hx hb dL_law_770 (by decide) ?_
            refine lv_iload hx hb dL_law_771 (lv_at hl 14 rfl) ?_
            refine x_mulN hx hb dL_law_773 ?_
            refine lv_iload hx hb dL_law_774 (lv_at hl 22 rfl) ?_
            refine x_addN hx hb dL_law_776 ?_
            refine lv_aload hx hb dL_law_777 (lv_at hl 20 rfl) ?_
            refine lv_iload hx hb dL_law_779 (lv_at hl 22 rfl) ?_
            refine x_ald C h (List.mem_append_right _ (List.mem_singleton.mpr rfl)) (n := 4) (kd_50 hmB) k (by omega) (by decide) rfl dL_law_781 ?_
            refine x_ast C h (List.mem_append_left _ (hR9 34 (by decide) (by decide))) (n := 32) rfl ((3 * mB) + k) (by omega) (by decide) rfl dL_law_782 (fun H locs u41 eu41 h => ?_)
            refine lv_iload hx hb dL_law_783 (lv_at hl 21 rfl) ?_
            refine lv_aload hx hb dL_law_785 (lv_at hl 8 rfl) ?_
            refine lv_iload hx hb dL_law_787 (lv_at hl 0 rfl) ?_
            refine lv_iconst (v := nI 1) hx hb dL_law_789 (by decide) ?_
            refine x_addN hx hb dL_law_790 ?_
            refine x_ald C h (List.mem_append_left _ (hR9 33 (by decide) (by decide))) (n := 64) rfl (((9 * mB) + (3 * k)) + 1) (by omega) (by decide) rfl dL_law_791 ?_
            refine x_topi (y := nI (1 + w25)) (by rw [eu41, ga_sa, if_neg (by omega), eu40, ga_sa, if_neg (by omega), hu4, ga_si, ga_sa, if_neg (by omega), ga_sa, if_neg (by omega), ga_sa, if_neg (by omega), hv3, ga_self]; exact g1) ?_
            refine lv_aload hx hb dL_law_792 (lv_at hl 8 rfl) ?_
            refine lv_iload hx hb dL_law_794 (lv_at hl 0 rfl) ?_
            refine lv_iconst (v := nI 2) hx hb dL_law_796 (by decide) ?_
            refine x_addN hx hb dL_law_797 ?_
            refine x_ald C h (List.mem_append_left _ (hR9 33 (by decide) (by decide))) (n := 64) rfl (((9 * mB) + (3 * k)) + 2) (by omega) (by decide) rfl dL_law_798 ?_
            refine x_topi (y := nI (1 + w34)) (by rw [eu41, ga_sa, if_neg (by omega), eu40, ga_sa, if_neg (by omega), hu4, ga_si, ga_sa, if_neg (by omega), ga_sa, if_neg (by omega), ga_sa, if_neg (by omega), hv3, ga_self]; exact g2) ?_
            refine x_mulN hx hb dL_law_799 ?_
            refine x_addN hx hb dL_law_800 ?_
            refine lv_istore (lv' := [(24, .int (nI (sm + ((1 + w25) * (1 + w34))))), (27, .int (nI ((9 * mB) + (3 * k)))), (26, .int x13), (0, .ref b), (1, .ref (ad2 0)), (2, .int (nI bd)), (3, .int (nI at9)), (6, .ref (ad2 31)), (7, .ref (ad2 32)), (8, .ref (ad2 33)), (9, .ref (ad2 34)), (10, .ref (ad2 35)), (11, .ref (ad2 36)), (12, .int (nI d)), (13, .int (nI n)), (14, .int (nI mB)), (15, .int (nI nn)), (16, .int (nI t)), (20, .int (nI p9)), (21, .int (nI mn)), (22, .int (nI w7)), (23, .ref (ad2 (50 + mB))), (25, .int (nI k))]) hx hb dL_law_801 hl (by decide) rfl (fun ls hl => ?_)
            refine lv_iinc (v := nI (k + 1)) (lv' := [(25, .int (nI (k + 1))), (24, .int (nI (sm + ((1 + w25) * (1 + w34))))), (27, .int (nI ((9 * mB) + (3 * k)))), (26, .int x13), (0, .ref b), (1, .ref (ad2 0)), (2, .int (nI bd)), (3, .int (nI at9)), (6, .ref (ad2 31)), (7, .ref (ad2 32)), (8, .ref (ad2 33)), (9, .ref (ad2 34)), (10, .ref (ad2 35)), (11, .ref (ad2 36)), (12, .int (nI d)), (13, .int (nI n)), (14, .int (nI mB)), (15, .int (nI nn)), (16, .int (nI t)), (20, .int (nI p9)), (21, .int (nI mn)), (22, .int (nI w7)), (23, .ref (ad2 (50 + mB)))]) hx hb dL_law_803 hl (k := 22) rfl (nI_add _ _) (by decide) rfl (fun ls hl => ?_)
            refine lv_goto (tgt := 601) hx hb dL_law_806 (by decide) ?_
            obtain ⟨q1, q2, q3, q4, q5, q6⟩ := PI_line hv hk3 hmB hW hby hsm hs9 (by omega) (by omega) (by omega) (by omega) (by omega) hg8 hv3 hu4 eu40 eu41
            refine W.widen (k := 1001 + 4000 * t + 4 * (k + 1)) (n := 10004 + 40000 * t + 24 * (k + 1)) (by omega) (by omega) ?_
            exact ih601 u41 (k + 1) (sm + (1 + w25) * (1 + w34)) q1 (by omega) q2 q3 q4 q5 (q6 _ hcl1) (PA_x hAv (q6 _ hAv.2.2.2.2.2.1)) (by omega) H locs ls h (lv_sub hl [4, 5, 6, 7, 8, 9, 10, 11, 12, 13, 14, 15, 16, 17, 18, 19, 20, 21, 22, 1, 0] rfl)
          · refine lv_bipush (v := nI 99) hx hb dL_law_699 (by decide) ?_
            refine lv_goto (tgt := 707) hx hb dL_law_701 (by decide) ?_
            refine cl_L_37 C h (c_L_low l D cy ad2 (Ls ++ [50 + mB]) u26 y27 99 (by omega) (by omega)) (by decide) ⟨by show _ ≤ 754712; omega, by show _ ≤ 6837489; omega⟩ hl.1 (Nat.le_of_ble_eq_true rfl) dL_law_707 (fun r43 u42 H locs hp h => ?_)
            obtain ⟨er43, eu42⟩ := hp; rw [eu42] at h; clear eu42 u42; refine x_topi er43 ?_; clear er43 r43
            obtain ⟨w44, ew44⟩ : ∃ z9, z9 = lowN y27 99 := ⟨_, rfl⟩; have hw44 : w44 < 99 := (by rw [ew44]; exact lowN_lt (by omega)); rw [← ew44]; clear ew44
            refine x_addN hx hb dL_law_710 ?_
            refine x_ast C h (List.mem_append_left _ (hR9 33 (by decide) (by decide))) (n := 64) rfl (((9 * mB) + (3 * k)) + 2) (by omega) (by decide) rfl dL_law_711 (fun H locs u45 eu45 h => ?_)
            obtain ⟨g8, hg8⟩ : ∃ g8, g8 = upd (upd (upd (ga v 33) (9 * mB + 3 * k) (nI w16)) (9 * mB + 3 * k + 1) (nI (1 + w25))) (9 * mB + 3 * k + 2) (nI (1 + w44)) := ⟨_, rfl⟩
            have hv3 : u45 = sa v 33 g8 := by rw [eu45, eu26, eu17, hg8]; simp only [ga_self, sa_sa]
            obtain ⟨g0, g1, g2, -⟩ := upd3 hg8
            refine lv_aload_n hx hb dL_law_712 rfl (lv_at hl 3 rfl) ?_
            refine lv_aload hx hb dL_law_713 (lv_at hl 8 rfl) ?_
            refine lv_iload hx hb dL_law_715 (lv_at hl 0 rfl) ?_
            refine x_ald C h (List.mem_append_left _ (hR9 33 (by decide) (by decide))) (n := 64) rfl ((9 * mB) + (3 * k)) (by omega) (by decide) rfl dL_law_717 ?_
            refine x_topi (y := nI w16) (by rw [hv3, ga_self]; exact g0) ?_
            refine lv_aload hx hb dL_law_718 (lv_at hl 8 rfl) ?_
            refine lv_iload hx hb dL_law_720 (lv_at hl 0 rfl) ?_
            refine lv_iconst (v := nI 1) hx hb dL_law_722 (by decide) ?_
            refine x_addN hx hb dL_law_723 ?_
            refine x_ald C h (List.mem_append_left _ (hR9 33 (by decide) (by decide))) (n := 64) rfl (((9 * mB) + (3 * k)) + 1) (by omega) (by decide) rfl dL_law_724 ?_
            refine x_topi (y := nI (1 + w25)) (by rw [hv3, ga_self]; exact g1) ?_
            refine lv_aload hx hb dL_law_725 (lv_at hl 8 rfl) ?_
            refine lv_iload hx hb dL_law_727 (lv_at hl 0 rfl) ?_
            refine lv_iconst (v := nI 2) hx hb dL_law_729 (by decide) ?_
            refine x_addN hx hb dL_law_730 ?_
            refine x_ald C h (List.mem_append_left _ (hR9 33 (by decide) (by decide))) (n := 64) rfl (((9 * mB) + (3 * k)) + 2) (by omega) (by decide) rfl dL_law_731 ?_
            refine x_topi (y := nI (1 + w44)) (by rw [hv3, ga_self]; exact g2) ?_
            refine cx_L_76 C h (List.mem_append_left _ (hL 0 rfl)) rfl (c_X7_line l hl0 D cy ad2 (Ls ++ [50 + mB]) u45 (fun k9 hk9 => List.mem_append_left _ (hL k9 hk9)) mB (by omega) (fun j hj => List.mem_append_left _ (hA9.2.2.1 mB (Nat.le_refl _) j hj)) k (by omega) (by rw [hv3]; exact hv.2.2.1.2.2.2.1) (by rw [hv3]; exact hv.2.2.1.2.1) (nI w16) (nI (1 + w25)) (nI (1 + w44))) (by decide) ⟨by show _ ≤ 754712; omega, by show _ ≤ 6837489; omega⟩ hl.1 (Nat.le_of_ble_eq_true rfl) dL_law_732 (x_noX (kLine_0 (by omega) (by omega) (by omega) (by omega) (by omega) (by omega))) (fun r47 u46 H locs hp h => ?_)
            obtain ⟨-, er, hu4⟩ := hp; refine x_topi er ?_; clear er r47
            have hlo4 : ∀ x, x < 50 → ¬ x = 33 → ga u46 x = ga v x := fun x q1 q2 => by rw [hu4, ga_si, ga_sa, if_neg (by omega), ga_sa, if_neg (by omega), ga_sa, if_neg (by omega), hv3, ga_sa, if_neg q2]
            refine lv_iload hx hb dL_law_735 (lv_at hl 22 rfl) ?_
            refine lv_iconst (v := nI 1) hx hb dL_law_737 (by decide) ?_
            refine x_addN hx hb dL_law_738 ?_
            refine x_icmp_eq_t (tgt := 744) hx hb dL_law_739 (by decide) rfl ?_
            refine lv_aload hx hb dL_law_744 (lv_at hl 20 rfl) ?_
            refine lv_iload hx hb dL_law_746 (lv_at hl 22 rfl) ?_
            refine lv_aload hx hb dL_law_748 (lv_at hl 6 rfl) ?_
            refine lv_iload hx hb dL_law_750 (lv_at hl 13 rfl) ?_
            refine lv_aload hx hb dL_law_752 (lv_at hl 10 rfl) ?_
            refine lv_iload hx hb dL_law_754 (lv_at hl 19 rfl) ?_
            refine x_ald C h (List.mem_append_left _ (hR9 35 (by decide) (by decide))) (n := 16) rfl w7 (by omega) (by decide) rfl dL_law_756 ?_
            refine x_topi (y := nI pl) (by rw [hlo4 35 (by decide) (by decide)]; exact e35v) ?_
            refine lv_aload hx hb dL_law_757 (lv_at hl 8 rfl) ?_
            refine lv_iload hx hb dL_law_759 (lv_at hl 0 rfl) ?_
            refine x_ald C h (List.mem_append_left _ (hR9 33 (by decide) (by decide))) (n := 64) rfl ((9 * mB) + (3 * k)) (by omega) (by decide) rfl dL_law_761 ?_
            refine x_topi (y := nI w16) (by rw [hu4, ga_si, ga_sa, if_neg (by omega), ga_sa, if_neg (by omega), ga_sa, if_neg (by omega), hv3, ga_self]; exact g0) ?_
            refine lv_iload hx hb dL_law_762 (lv_at hl 12 rfl) ?_
            refine cl_L_10 C h (c_L_telling l D cy ad2 (Ls ++ [50 + mB]) u46 (List.mem_append_left _ (hR9 31 (by decide) (by decide))) n hn15 (by rw [hlo4 31 (by decide) (by decide), hlo4 13 (by decide) (by decide), hlo4 14 (by decide) (by decide), hlo4 15 (by decide) (by decide), hlo4 16 (by decide) (by decide)]; exact hv.1.2.2) (nI pl) (nI w16) (nI d)) (by decide) ⟨by show _ ≤ 754712; omega, by show _ ≤ 6837489; omega⟩ hl.1 (Nat.le_of_ble_eq_true rfl) dL_law_764 (fun r49 u48 H locs hp h => ?_)
            obtain ⟨er49, eu48⟩ := hp; rw [eu48] at h; clear eu48 u48; refine x_topi er49 ?_; clear er49 r49
            refine x_ast C h (List.mem_append_right _ (List.mem_singleton.mpr rfl)) (n := 4) (kd_50 hmB) k (by omega) (by decide) rfl dL_law_767 (fun H locs u50 eu50 h => ?_)
            refine lv_aload hx hb dL_law_768 (lv_at hl 9 rfl) ?_
            refine lv_iconst (v := nI 3) hx hb dL_law_770 (by decide) ?_
            refine lv_iload hx hb dL_law_771 (lv_at hl 14 rfl) ?_
            refine x_mulN hx hb dL_law_773 ?_
            refine lv_iload hx hb dL_law_774 (lv_at hl 22 rfl) ?_
            refine x_addN hx hb dL_law_776 ?_
            refine lv_aload hx hb dL_law_777 (lv_at hl 20 rfl) ?_
            refine lv_iload hx hb dL_law_779 (lv_at hl 22 rfl) ?_
            refine x_ald C h (List.mem_append_right _ (List.mem_singleton.mpr rfl)) (n := 4) (kd_50 hmB) k (by omega) (by decide) rfl dL_law_781 ?_
            refine x_ast C h (List.mem_append_left _ (hR9 34 (by decide) (by decide))) (n := 32) rfl ((3 * mB) + k) (by omega) (by decide) rfl dL_law_782 (fun H locs u51 eu51 h => ?_)
            refine lv_iload hx hb dL_law_783 (lv_at hl 21 rfl) ?_
            refine lv_aload hx hb dL_law_785 (lv_at hl 8 rfl) ?_
            refine lv_iload hx hb dL_law_787 (lv_at hl 0 rfl) ?_
            refine lv_iconst (v := nI 1) hx hb dL_law_789 (by decide) ?_
            refine x_addN hx hb dL_law_790 ?_
            refine x_ald C h (List.mem_append_left _ (hR9 33 (by decide) (by decide))) (n := 64) rfl (((9 * mB) + (3 * k)) + 1) (by omega) (by decide) rfl dL_law_791 ?_
            refine x_topi (y := nI (1 + w25)) (by rw [eu51, ga_sa, if_neg (by omega), eu50, ga_sa, if_neg (by omega), hu4, ga_si, ga_sa, if_neg (by omega), ga_sa, if_neg (by omega), ga_sa, if_neg (by omega), hv3, ga_self]; exact g1) ?_
            refine lv_aload hx hb dL_law_792 (lv_at hl 8 rfl) ?_
            refine lv_iload hx hb dL_law_794 (lv_at hl 0 rfl) ?_
            refine lv_iconst (v := nI 2) hx hb dL_law_796 (by decide) ?_
            refine x_addN hx hb dL_law_797 ?_
            refine x_ald C h (List.mem_append_left _ (hR9 33 (by decide) (by decide))) (n := 64) rfl (((9 * mB) + (3 * k)) + 2) (by omega) (by decide) rfl dL_law_798 ?_
            refine x_topi (y := nI (1 + w44)) (by rw [eu51, ga_sa, if_neg (by omega), eu50, ga_sa, if_neg (by omega), hu4, ga_si, ga_sa, if_neg (by omega), ga_sa, if_neg (by omega), ga_sa, if_neg (by omega), hv3, ga_self]; exact g2) ?_
            refine x_mulN hx hb dL_law_799 ?_
            refine x_addN hx hb dL_law_800 ?_
            refine lv_istore (lv' := [(24, .int (nI (sm + ((1 + w25) * (1 + w44))))), (27, .int (nI ((9 * mB) + (3 * k)))), (26, .int x13), (0, .ref b), (1, .ref (ad2 0)), (2, .int (nI bd)), (3, .int (nI at9)), (6, .ref (ad2 31)), (7, .ref (ad2 32)), (8, .ref (ad2 33)), (9, .ref (ad2 34)), (10, .ref (ad2 35)), (11, .ref (ad2 36)), (12, .int (nI d)), (13, .int (nI n)), (14, .int (nI mB)), (15, .int (nI nn)), (16, .int (nI t)), (20, .int (nI p9)), (21, .int (nI mn)), (22, .int (nI w7)), (23, .ref (ad2 (50 + mB))), (25, .int (nI k))]) hx hb dL_law_801 hl (by decide) rfl (fun ls hl => ?_)
            refine lv_iinc (v := nI (k + 1)) (lv' := [(25, .int (nI (k + 1))), (24, .int (nI (sm + ((1 + w25) * (1 + w44))))), (27, .int (nI ((9 * mB) + (3 * k)))), (26, .int x13), (0, .ref b), (1, .ref (ad2 0)), (2, .int (nI bd)), (3, .int (nI at9)), (6, .ref (ad2 31)), (7, .ref (ad2 32)), (8, .ref (ad2 33)), (9, .ref (ad2 34)), (10, .ref (ad2 35)), (11, .ref (ad2 36)), (12, .int (nI d)), (13, .int (nI n)), (14, .int (nI mB)), (15, .int (nI nn)), (16, .int (nI t)), (20, .int (nI p9)), (21, .int (nI mn)), (22, .int (nI w7)), (23, .ref (ad2 (50 + mB)))]) hx hb dL_law_803 hl (k := 22) rfl (nI_add _ _) (by decide) rfl (fun ls hl => ?_)
            refine lv_goto (tgt := 601) hx hb dL_law_806 (by decide) ?_
            obtain ⟨q1, q2, q3, q4, q5, q6⟩ := PI_line hv hk3 hmB hW hby hsm hs9 (by omega) (by omega) (by omega) (by omega) (by omega) hg8 hv3 hu4 eu50 eu51
            refine W.widen (k := 1001 + 4000 * t + 4 * (k + 1)) (n := 10004 + 40000 * t + 24 * (k + 1)) (by omega) (by omega) ?_
            exact ih601 u51 (k + 1) (sm + (1 + w25) * (1 + w44)) q1 (by omega) q2 q3 q4 q5 (q6 _ hcl1) (PA_x hAv (q6 _ hAv.2.2.2.2.2.1)) (by omega) H locs ls h (lv_sub hl [4, 5, 6, 7, 8, 9, 10, 11, 12, 13, 14, 15, 16, 17, 18, 19, 20, 21, 22, 1, 0] rfl)
        · refine lv_bipush (v := nI 9) hx hb dL_law_663 (by decide) ?_
          refine lv_goto (tgt := 670) hx hb dL_law_665 (by decide) ?_
          refine cl_L_37 C h (c_L_low l D cy ad2 (Ls ++ [50 + mB]) u17 y18 9 (by omega) (by omega)) (by decide) ⟨by show _ ≤ 754712; omega, by show _ ≤ 6837489; omega⟩ hl.1 (Nat.le_of_ble_eq_true rfl) dL_law_670 (fun r53 u52 H locs hp h => ?_)
          obtain ⟨er53, eu52⟩ := hp; rw [eu52] at h; clear eu52 u52; refine x_topi er53 ?_; clear er53 r53
          obtain ⟨w54, ew54⟩ : ∃ z9, z9 = lowN y18 9 := ⟨_, rfl⟩; have hw54 : w54 < 9 := (by rw [ew54]; exact lowN_lt (by omega)); rw [← ew54]; clear ew54
          refine x_addN hx hb dL_law_673 ?_
          refine x_ast C h (List.mem_append_left _ (hR9 33 (by decide) (by decide))) (n := 64) rfl (((9 * mB) + (3 * k)) + 1) (by omega) (by decide) rfl dL_law_674 (fun H locs u55 eu55 h => ?_)
          refine lv_aload hx hb dL_law_675 (lv_at hl 8 rfl) ?_
          refine lv_iload hx hb dL_law_677 (lv_at hl 0 rfl) ?_
          refine lv_iconst (v := nI 2) hx hb dL_law_679 (by decide) ?_
          refine x_addN hx hb dL_law_680 ?_
          refine lv_iconst (v := nI 1) hx hb dL_law_681 (by decide) ?_
          refine lv_iload hx hb dL_law_682 (lv_at hl 1 rfl) ?_
          refine lv_bipush (v := nI 10) hx hb dL_law_684 (by decide) ?_
          refine lv_ishr hx hb dL_law_686 ?_
          refine lv_topi (fun y56 ey56 => ?_)
          refine lv_iload hx hb dL_law_687 (lv_at hl 1 rfl) ?_
          refine lv_bipush (v := nI 9) hx hb dL_law_689 (by decide) ?_
          refine lv_ishr hx hb dL_law_691 ?_
          refine lv_topi (fun y57 ey57 => ?_)
          refine lv_iconst (v := nI 2) hx hb dL_law_692 (by decide) ?_
          refine cl_L_37 C h (c_L_low l D cy ad2 (Ls ++ [50 + mB]) u55 y57 2 (by omega) (by omega)) (by decide) ⟨by show _ ≤ 754712; omega, by show _ ≤ 6837489; omega⟩ hl.1 (Nat.le_of_ble_eq_true rfl) dL_law_693 (fun r59 u58 H locs hp h => ?_)
          obtain ⟨er59, eu58⟩ := hp; rw [eu58] at h; clear eu58 u58; refine x_topi er59 ?_; clear er59 r59
          obtain ⟨w60, ew60⟩ : ∃ z9, z9 = lowN y57 2 := ⟨_, rfl⟩; have hw60 : w60 < 2 := (by rw [ew60]; exact lowN_lt (by omega)); rw [← ew60]; clear ew60
          refine x_ifN_ne (tgt := 704) hx hb dL_law_696 (by decide) (by omega) (fun c696 => ?_) (fun c696 => ?_)
          · refine lv_sipush (v := nI 9999) hx hb dL_law_704 (by decide) ?_
            refine cl_L_37 C h (c_L_low l D cy ad2 (Ls ++ [50 + mB]) u55 y56 9999 (by omega) (by omega)) (by decide) ⟨by show _ ≤ 754712; omega, by show _ ≤ 6837489; omega⟩ hl.1 (Nat.le_of_ble_eq_true rfl) dL_law_707 (fun r62 u61 H locs hp h => ?_)
            obtain ⟨er62, eu61⟩ := hp; rw [eu61] at h; clear eu61 u61; refine x_topi er62 ?_; clear er62 r62
            obtain ⟨w63, ew63⟩ : ∃ z9, z9 = lowN y56 9999 := ⟨_, rfl⟩; have hw63 : w63 < 9999 := (by rw [ew63]; exact lowN_lt (by omega)); rw [← ew63]; clear ew63
            refine x_addN hx hb dL_law_710 ?_
            refine x_ast C h (List.mem_append_left _ (hR9 33 (by decide) (by decide))) (n := 64) rfl (((9 * mB) + (3 * k)) + 2) (by omega) (by decide) rfl dL_law_711 (fun H locs u64 eu64 h => ?_)
            obtain ⟨g8, hg8⟩ : ∃ g8, g8 = upd (upd (upd (ga v 33) (9 * mB + 3 * k) (nI w16)) (9 * mB + 3 * k + 1) (nI (1 + w54))) (9 * mB + 3 * k + 2) (nI (1 + w63)) := ⟨_, rfl⟩
            have hv3 : u64 = sa v 33 g8 := by rw [eu64, eu55, eu17, hg8]; simp only [ga_self, sa_sa]
            obtain ⟨g0, g1, g2, -⟩ := upd3 hg8
            refine lv_aload_n hx hb dL_law_712 rfl (lv_at hl 3 rfl) ?_
            refine lv_aload hx hb dL_law_713 (lv_at hl 8 rfl) ?_
            refine lv_iload hx hb dL_law_715 (lv_at hl 0 rfl) ?_
            refine x_ald C h (List.mem_append_left _ (hR9 33 (by decide) (by decide))) (n := 64) rfl ((9 * mB) + (3 * k)) (by omega) (by decide) rfl dL_law_717 ?_
            refine x_topi (y := nI w16) (by rw [hv3, ga_self]; exact g0) ?_
            refine lv_aload hx hb dL_law_718 (lv_at hl 8 rfl) ?_
            refine lv_iload hx hb dL_law_720 (lv_at hl 0 rfl) ?_
            refine lv_iconst (v := nI 1) hx hb dL_law_722 (by decide) ?_
            refine x_addN hx hb dL_law_723 ?_
            refine x_ald C h (List.mem_append_left _ (hR9 33 (by decide) (by decide))) (n := 64) rfl (((9 * mB) + (3 * k)) + 1) (by omega) (by decide) rfl dL_law_724 ?_
            refine x_topi (y := nI (1 + w54)) (by rw [hv3, ga_self]; exact g1) ?_
            refine lv_aload hx hb dL_law_725 (lv_at hl 8 rfl) ?_
            refine lv_iload hx hb dL_law_727 (lv_at hl 0 rfl) ?_
            refine lv_iconst (v := nI 2) hx hb dL_law_729 (by decide) ?_
            refine x_addN hx hb dL_law_730 ?_
            refine x_ald C h (List.mem_append_left _ (hR9 33 (by decide) (by decide))) (n := 64) rfl (((9 * mB) + (3 * k)) + 2) (by omega) (by decide) rfl dL_law_731 ?_
            refine x_topi (y := nI (1 + w63)) (by rw [hv3, ga_self]; exact g2) ?_
            refine cx_L_76 C h (List.mem_append_left _ (hL 0 rfl)) rfl (c_X7_line l hl0 D cy ad2 (Ls ++ [50 + mB]) u64 (fun k9 hk9 => List.mem_append_left _ (hL k9 hk9)) mB (by omega) (fun j hj => List.mem_append_left _ (hA9.2.2.1 mB (Nat.le_refl _) j hj)) k (by omega) (by rw [hv3]; exact hv.2.2.1.2.2.2.1) (by rw [hv3]; exact hv.2.2.1.2.1) (nI w16) (nI (1 + w54)) (nI (1 + w63))) (by decide) ⟨by show _ ≤ 754712; omega, by show _ ≤ 6837489; omega⟩ hl.1 (Nat.le_of_ble_eq_true rfl) dL_law_732 (x_noX (kLine_0 (by omega) (by omega) (by omega) (by omega) (by omega) (by omega))) (fun r66 u65 H locs hp h => ?_)
            obtain ⟨-, er, hu4⟩ := hp; refine x_topi er ?_; clear er r66
            have hlo4 : ∀ x, x < 50 → ¬ x = 33 → ga u65 x = ga v x := fun x q1 q2 => by rw [hu4, ga_si, ga_sa, if_neg (by omega), ga_sa, if_neg (by omega), ga_sa, if_neg (by omega), hv3, ga_sa, if_neg q2]
            refine lv_iload hx hb dL_law_735 (lv_at hl 22 rfl) ?_
            refine lv_iconst (v := nI 1) hx hb dL_law_737 (by decide) ?_
            refine x_addN hx hb dL_law_738 ?_
            refine x_icmp_eq_t (tgt := 744) hx hb dL_law_739 (by decide) rfl ?_
            refine lv_aload hx hb dL_law_744 (lv_at hl 20 rfl) ?_
            refine lv_iload hx hb dL_law_746 (lv_at hl 22 rfl) ?_
            refine lv_aload hx hb dL_law_748 (lv_at hl 6 rfl) ?_
            refine lv_iload hx hb dL_law_750 (lv_at hl 13 rfl) ?_
            refine lv_aload hx hb dL_law_752 (lv_at hl 10 rfl) ?_
            refine lv_iload hx hb dL_law_754 (lv_at hl 19 rfl) ?_
            refine x_ald C h (List.mem_append_left _ (hR9 35 (by decide) (by decide))) (n := 16) rfl w7 (by omega) (by decide) rfl dL_law_756 ?_
            refine x_topi (y := nI pl) (by rw [hlo4 35 (by decide) (by decide)]; exact e35v) ?_
            refine lv_aload hx hb dL_law_757 (lv_at hl 8 rfl) ?_
            refine lv_iload hx hb dL_law_759 (lv_at hl 0 rfl) ?_
            refine x_ald C h (List.mem_append_left _ (hR9 33 (by decide) (by decide))) (n := 64) rfl ((9 * mB) + (3 * k)) (by omega) (by decide) rfl dL_law_761 ?_
            refine x_topi (y := nI w16) (by rw [hu4, ga_si, ga_sa, if_neg (by omega), ga_sa, if_neg (by omega), ga_sa, if_neg (by omega), hv3, ga_self]; exact g0) ?_
            refine lv_iload hx hb dL_law_762 (lv_at hl 12 rfl) ?_
            refine cl_L_10 C h (c_L_telling l D cy ad2 (Ls ++ [50 + mB]) u65 (List.mem_append_left _ (hR9 31 (by decide) (by decide))) n hn15 (by rw [hlo4 31 (by decide) (by decide), hlo4 13 (by decide) (by decide), hlo4 14 (by decide) (by decide), hlo4 15 (by decide) (by decide), hlo4 16 (by decide) (by decide)]; exact hv.1.2.2) (nI pl) (nI w16) (nI d)) (by decide) ⟨by show _ ≤ 754712; omega, by show _ ≤ 6837489; omega⟩ hl.1 (Nat.le_of_ble_eq_true rfl) dL_law_764 (fun r68 u67 H locs hp h => ?_)
            obtain ⟨er68, eu67⟩ := hp; rw [eu67] at h; clear eu67 u67; refine x_topi er68 ?_; clear er68 r68
            refine x_ast C h (List.mem_append_right _ (List.mem_singleton.mpr rfl)) (n := 4) (kd_50 hmB) k (by omega) (by decide) rfl dL_law_767 (fun H locs u69 eu69 h => ?_)
            refine lv_aload hx hb dL_law_768 (lv_at hl 9 rfl) ?_
            refine lv_iconst (v := nI 3) hx hb dL_law_770 (by decide) ?_
            refine lv_iload hx hb dL_law_771 (lv_at hl 14 rfl) ?_
            refine x_mulN hx hb dL_law_773 ?_
            refine lv_iload hx hb dL_law_774 (lv_at hl 22 rfl) ?_
            refine x_addN hx hb dL_law_776 ?_
            refine lv_aload hx hb dL_law_777 (lv_at hl 20 rfl) ?_
            refine lv_iload hx hb dL_law_779 (lv_at hl 22 rfl) ?_
            refine x_ald C h (List.mem_append_right _ (List.mem_singleton.mpr rfl)) (n := 4) (kd_50 hmB) k (by omega) (by decide) rfl dL_law_781 ?_
            refine x_ast C h (List.mem_append_left _ (hR9 34 (by decide) (by decide))) (n := 32) rfl ((3 * mB) + k) (by omega) (by decide) rfl dL_law_782 (fun H locs u70 eu70 h => ?_)
            refine lv_iload hx hb dL_law_783 (lv_at hl 21 rfl) ?_
            refine lv_aload hx hb dL_law_785 (lv_at hl 8 rfl) ?_
            refine lv_iload hx hb dL_law_787 (lv_at hl 0 rfl) ?_
            refine lv_iconst (v := nI 1) hx hb dL_law_789 (by decide) ?_
            refine x_addN hx hb dL_law_790 ?_
            refine x_ald C h (List.mem_append_left _ (hR9 33 (by decide) (by decide))) (n := 64) rfl (((9 * mB) + (3 * k)) + 1) (by omega) (by decide) rfl dL_law_791 ?_
            refine x_topi (y := nI (1 + w54)) (by rw [eu70, ga_sa, if_neg (by omega), eu69, ga_sa, if_neg (by omega), hu4, ga_si, ga_sa, if_neg (by omega), ga_sa, if_neg (by omega), ga_sa, if_neg (by omega), hv3, ga_self]; exact g1) ?_
            refine lv_aload hx hb dL_law_792 (lv_at hl 8 rfl) ?_
            refine lv_iload hx hb dL_law_794 (lv_at hl 0 rfl) ?_
            refine lv_iconst (v := nI 2) hx hb dL_law_796 (by decide) ?_
            refine x_addN hx hb dL_law_797 ?_
            refine x_ald C h (List.mem_append_left _ (hR9 33 (by decide) (by decide))) (n := 64) rfl (((9 * mB) + (3 * k)) + 2) (by omega) (by decide) rfl dL_law_798 ?_
            refine x_topi (y := nI (1 + w63)) (by rw [eu70, ga_sa, if_neg (by omega), eu69, ga_sa, if_neg (by omega), hu4, ga_si, ga_sa, if_neg (by omega), ga_sa, if_neg (by omega), ga_sa, if_neg (by omega), hv3, ga_self]; exact g2) ?_
            refine x_mulN hx hb dL_law_799 ?_
            refine x_addN hx hb dL_law_800 ?_
            refine lv_istore (lv' := [(24, .int (nI (sm + ((1 + w54) * (1 + w63))))), (27, .int (nI ((9 * mB) + (3 * k)))), (26, .int x13), (0, .ref b), (1, .ref (ad2 0)), (2, .int (nI bd)), (3, .int (nI at9)), (6, .ref (ad2 31)), (7, .ref (ad2 32)), (8, .ref (ad2 33)), (9, .ref (ad2 34)), (10, .ref (ad2 35)), (11, .ref (ad2 36)), (12, .int (nI d)), (13, .int (nI n)), (14, .int (nI mB)), (15, .int (nI nn)), (16, .int (nI t)), (20, .int (nI p9)), (21, .int (nI mn)), (22, .int (nI w7)), (23, .ref (ad2 (50 + mB))), (25, .int (nI k))]) hx hb dL_law_801 hl (by decide) rfl (fun ls hl => ?_)
            refine lv_iinc (v := nI (k + 1)) (lv' := [(25, .int (nI (k + 1))), (24, .int (nI (sm + ((1 + w54) * (1 + w63))))), (27, .int (nI ((9 * mB) + (3 * k)))), (26, .int x13), (0, .ref b), (1, .ref (ad2 0)), (2, .int (nI bd)), (3, .int (nI at9)), (6, .ref (ad2 31)), (7, .ref (ad2 32)), (8, .ref (ad2 33)), (9, .ref (ad2 34)), (10, .ref (ad2 35)), (11, .ref (ad2 36)), (12, .int (nI d)), (13, .int (nI n)), (14, .int (nI mB)), (15, .int (nI nn)), (16, .int (nI t)), (20, .int (nI p9)), (21, .int (nI mn)), (22, .int (nI w7)), (23, .ref (ad2 (50 + mB)))]) hx hb dL_law_803 hl (k := 22) rfl (nI_add _ _) (by decide) rfl (fun ls hl => ?_)
            refine lv_goto (tgt := 601) hx hb dL_law_806 (by decide) ?_
            obtain ⟨q1, q2, q3, q4, q5, q6⟩ := PI_line hv hk3 hmB hW hby hsm hs9 (by omega) (by omega) (by omega) (by omega) (by omega) hg8 hv3 hu4 eu69 eu70
            refine W.widen (k := 1001 + 4000 * t + 4 * (k + 1)) (n := 10004 + 40000 * t + 24 * (k + 1)) (by omega) (by omega) ?_
            exact ih601 u70 (k + 1) (sm + (1 + w54) * (1 + w63)) q1 (by omega) q2 q3 q4 q5 (q6 _ hcl1) (PA_x hAv (q6 _ hAv.2.2.2.2.2.1)) (by omega) H locs ls h (lv_sub hl [4, 5, 6, 7, 8, 9, 10, 11, 12, 13, 14, 15, 16, 17, 18, 19, 20, 21, 22, 1, 0] rfl)
          · refine lv_bipush (v := nI 99) hx hb dL_law_699 (by decide) ?_
            refine lv_goto (tgt := 707) hx hb dL_law_701 (by decide) ?_
            refine cl_L_37 C h (c_L_low l D cy ad2 (Ls ++ [50 + mB]) u55 y56 99 (by omega) (by omega)) (by decide) ⟨by show _ ≤ 754712; omega, by show _ ≤ 6837489; omega⟩ hl.1 (Nat.le_of_ble_eq_true rfl) dL_law_707 (fun r72 u71 H locs hp h => ?_)
            obtain ⟨er72, eu71⟩ := hp; rw [eu71] at h; clear eu71 u71; refine x_topi er72 ?_; clear er72 r72
            obtain ⟨w73, ew73⟩ : ∃ z9, z9 = lowN y56 99 := ⟨_, rfl⟩; have hw73 : w73 < 99 := (by rw [ew73]; exact lowN_lt (by omega)); rw [← ew73]; clear ew73
            refine x_addN hx hb dL_law_710 ?_
            refine x_ast C h (List.mem_append_left _ (hR9 33 (by decide) (by decide))) (n := 64) rfl (((9 * mB) + (3 * k)) + 2) (by omega) (by decide) rfl dL_law_711 (fun H locs u74 eu74 h => ?_)
            obtain ⟨g8, hg8⟩ : ∃ g8, g8 = upd (upd (upd (ga v 33) (9 * mB + 3 * k) (nI w16)) (9 * mB + 3 * k + 1) (nI (1 + w54))) (9 * mB + 3 * k + 2) (nI (1 + w73)) := ⟨_, rfl⟩
            have hv3 : u74 = sa v 33 g8 := by rw [eu74, eu55, eu17, hg8]; simp only [ga_self, sa_sa]
            obtain ⟨g0, g1, g2, -⟩ := upd3 hg8
            refine lv_aload_n hx hb dL_law_712 rfl (lv_at hl 3 rfl) ?_
            refine lv_aload hx hb dL_law_713 (lv_at hl 8 rfl) ?_
            refine lv_iload hx hb dL_law_715 (lv_at hl 0 rfl) ?_
            refine x_ald C h (List.mem_append_left _ (hR9 33 (by decide) (by decide))) (n := 64) rfl ((9 * mB) + (3 * k)) (by omega) (by decide) rfl dL_law_717 ?_
            refine x_topi (y := nI w16) (by rw [hv3, ga_self]; exact g0) ?_
            refine lv_aload hx hb dL_law_718 (lv_at hl 8 rfl) ?_
            refine lv_iload hx hb dL_law_720 (lv_at hl 0 rfl) ?_
            refine lv_iconst (v := nI 1) hx hb dL_law_722 (by decide) ?_
            refine x_addN hx hb dL_law_723 ?_
            refine x_ald C h (List.mem_append_left _ (hR9 33 (by decide) (by decide))) (n := 64) rfl (((9 * mB) + (3 * k)) + 1) (by omega) (by decide) rfl dL_law_724 ?_
            refine x_topi (y := nI (1 + w54)) (by rw [hv3, ga_self]; exact g1) ?_
            refine lv_aload hx hb dL_law_725 (lv_at hl 8 rfl) ?_
            refine lv_iload hx hb dL_law_727 (lv_at hl 0 rfl) ?_
            refine lv_iconst (v := nI 2) hx hb dL_law_729 (by decide) ?_
            refine x_addN hx hb dL_law_730 ?_
            refine x_ald C h (List.mem_append_left _ (hR9 33 (by decide) (by decide))) (n := 64) rfl (((9 * mB) + (3 * k)) + 2) (by omega) (by decide) rfl dL_law_731 ?_
            refine x_topi (y := nI (1 + w73)) (by rw [hv3, ga_self]; exact g2) ?_
            refine cx_L_76 C h (List.mem_append_left _ (hL 0 rfl)) rfl (c_X7_line l hl0 D cy ad2 (Ls ++ [50 + mB]) u74 (fun k9 hk9 => List.mem_append_left _ (hL k9 hk9)) mB (by omega) (fun j hj => List.mem_append_left _ (hA9.2.2.1 mB (Nat.le_refl _) j hj)) k (by omega) (by rw [hv3]; exact hv.2.2.1.2.2.2.1) (by rw [hv3]; exact hv.2.2.1.2.1) (nI w16) (nI (1 + w54)) (nI (1 + w73))) (by decide) ⟨by show _ ≤ 754712; omega, by show _ ≤ 6837489; omega⟩ hl.1 (Nat.le_of_ble_eq_true rfl) dL_law_732 (x_noX (kLine_0 (by omega) (by omega) (by omega) (by omega) (by omega) (by omega))) (fun r76 u75 H locs hp h => ?_)
            obtain ⟨-, er, hu4⟩ := hp; refine x_topi er ?_; clear er r76
            have hlo4 : ∀ x, x < 50 → ¬ x = 33 → ga u75 x = ga v x := fun x q1 q2 => by rw [hu4, ga_si, ga_sa, if_neg (by omega), ga_sa, if_neg (by omega), ga_sa, if_neg (by omega), hv3, ga_sa, if_neg q2]
            refine lv_iload hx hb dL_law_735 (lv_at hl 22 rfl) ?_
            refine lv_iconst (v := nI 1) hx hb dL_law_737 (by decide) ?_
            refine x_addN hx hb dL_law_738 ?_
            refine x_icmp_eq_t (tgt := 744) hx hb dL_law_739 (by decide) rfl ?_
            refine lv_aload hx hb dL_law_744 (lv_at hl 20 rfl) ?_
            refine lv_iload hx hb dL_law_746 (lv_at hl 22 rfl) ?_
            refine lv_aload hx hb dL_law_748 (lv_at hl 6 rfl) ?_
            refine lv_iload hx hb dL_law_750 (lv_at hl 13 rfl) ?_
            refine lv_aload hx hb dL_law_752 (lv_at hl 10 rfl) ?_
            refine lv_iload hx hb dL_law_754 (lv_at hl 19 rfl) ?_
            refine x_ald C h (List.mem_append_left _ (hR9 35 (by decide) (by decide))) (n := 16) rfl w7 (by omega) (by decide) rfl dL_law_756 ?_
            refine x_topi (y := nI pl) (by rw [hlo4 35 (by decide) (by decide)]; exact e35v) ?_
            refine lv_aload hx hb dL_law_757 (lv_at hl 8 rfl) ?_
            refine lv_iload hx hb dL_law_759 (lv_at hl 0 rfl) ?_
            refine x_ald C h (List.mem_append_left _ (hR9 33 (by decide) (by decide))) (n := 64) rfl ((9 * mB) + (3 * k)) (by omega) (by decide) rfl dL_law_761 ?_
            refine x_topi (y := nI w16) (by rw [hu4, ga_si, ga_sa, if_neg (by omega), ga_sa, if_neg (by omega), ga_sa, if_neg (by omega), hv3, ga_self]; exact g0) ?_
            refine lv_iload hx hb dL_law_762 (lv_at hl 12 rfl) ?_
            refine cl_L_10 C h (c_L_telling l D cy ad2 (Ls ++ [50 + mB]) u75 (List.mem_append_left _ (hR9 31 (by decide) (by decide))) n hn15 (by rw [hlo4 31 (by decide) (by decide), hlo4 13 (by decide) (by decide), hlo4 14 (by decide) (by decide), hlo4 15 (by decide) (by decide), hlo4 16 (by decide) (by decide)]; exact hv.1.2.2) (nI pl) (nI w16) (nI d)) (by decide) ⟨by show _ ≤ 754712; omega, by show _ ≤ 6837489; omega⟩ hl.1 (Nat.le_of_ble_eq_true rfl) dL_law_764 (fun r78 u77 H locs hp h => ?_)
            obtain ⟨er78, eu77⟩ := hp; rw [eu77] at h; clear eu77 u77; refine x_topi er78 ?_; clear er78 r78
            refine x_ast C h (List.mem_append_right _ (List.mem_singleton.mpr rfl)) (n := 4) (kd_50 hmB) k (by omega) (by decide) rfl dL_law_767 (fun H locs u79 eu79 h => ?_)
            refine lv_aload hx hb dL_law_768 (lv_at hl 9 rfl) ?_
            refine lv_iconst (v := nI 3) hx hb dL_law_770 (by decide) ?_
            refine lv_iload hx hb dL_law_771 (lv_at hl 14 rfl) ?_
            refine x_mulN hx hb dL_law_773 ?_
            refine lv_iload hx hb dL_law_774 (lv_at hl 22 rfl) ?_
            refine x_addN hx hb dL_law_776 ?_
            refine lv_aload hx hb dL_law_777 (lv_at hl 20 rfl) ?_
            refine lv_iload hx hb dL_law_779 (lv_at hl 22 rfl) ?_
            refine x_ald C h (List.mem_append_right _ (List.mem_singleton.mpr rfl)) (n := 4) (kd_50 hmB) k (by omega) (by decide) rfl dL_law_781 ?_
            refine x_ast C h (List.mem_append_left _ (hR9 34 (by decide) (by decide))) (n := 32) rfl ((3 * mB) + k) (by omega) (by decide) rfl dL_law_782 (fun H locs u80 eu80 h => ?_)
            refine lv_iload hx hb dL_law_783 (lv_at hl 21 rfl) ?_
            refine lv_aload hx hb dL_law_785 (lv_at hl 8 rfl) ?_
            refine lv_iload hx hb dL_law_787 (lv_at hl 0 rfl) ?_
            refine lv_iconst (v := nI 1) hx hb dL_law_789 (by decide) ?_
            refine x_addN hx hb dL_law_790 ?_
            refine x_ald C h (List.mem_append_left _ (hR9 33 (by decide) (by decide))) (n := 64) rfl (((9 * mB) + (3 * k)) + 1) (by omega) (by decide) rfl dL_law_791 ?_
            refine x_topi (y := nI (1 + w54)) (by rw [eu80, ga_sa, if_neg (by omega), eu79, ga_sa, if_neg (by omega), hu4, ga_si, ga_sa, if_neg (by omega), ga_sa, if_neg (by omega), ga_sa, if_neg (by omega), hv3, ga_self]; exact g1) ?_
            refine lv_aload hx hb dL_law_792 (lv_at hl 8 rfl) ?_
            refine lv_iload hx hb dL_law_794 (lv_at hl 0 rfl) ?_
            refine lv_iconst (v := nI 2) hx hb dL_law_796 (by decide) ?_
            refine x_addN hx hb dL_law_797 ?_
            refine x_ald C h (List.mem_append_left _ (hR9 33 (by decide) (by decide))) (n := 64) rfl (((9 * mB) + (3 * k)) + 2) (by omega) (by decide) rfl dL_law_798 ?_
            refine x_topi (y := nI (1 + w73)) (by rw [eu80, ga_sa, if_neg (by omega), eu79, ga_sa, if_neg (by omega), hu4, ga_si, ga_sa, if_neg (by omega), ga_sa, if_neg (by omega), ga_sa, if_neg (by omega), hv3, ga_self]; exact g2) ?_
            refine x_mulN hx hb dL_law_799 ?_
            refine x_addN hx hb dL_law_800 ?_
            refine lv_istore (lv' := [(24, .int (nI (sm + ((1 + w54) * (1 + w73))))), (27, .int (nI ((9 * mB) + (3 * k)))), (26, .int x13), (0, .ref b), (1, .ref (ad2 0)), (2, .int (nI bd)), (3, .int (nI at9)), (6, .ref (ad2 31)), (7, .ref (ad2 32)), (8, .ref (ad2 33)), (9, .ref (ad2 34)), (10, .ref (ad2 35)), (11, .ref (ad2 36)), (12, .int (nI d)), (13, .int (nI n)), (14, .int (nI mB)), (15, .int (nI nn)), (16, .int (nI t)), (20, .int (nI p9)), (21, .int (nI mn)), (22, .int (nI w7)), (23, .ref (ad2 (50 + mB))), (25, .int (nI k))]) hx hb dL_law_801 hl (by decide) rfl (fun ls hl => ?_)
            refine lv_iinc (v := nI (k + 1)) (lv' := [(25, .int (nI (k + 1))), (24, .int (nI (sm + ((1 + w54) * (1 + w73))))), (27, .int (nI ((9 * mB) + (3 * k)))), (26, .int x13), (0, .ref b), (1, .ref (ad2 0)), (2, .int (nI bd)), (3, .int (nI at9)), (6, .ref (ad2 31)), (7, .ref (ad2 32)), (8, .ref (ad2 33)), (9, .ref (ad2 34)), (10, .ref (ad2 35)), (11, .ref (ad2 36)), (12, .int (nI d)), (13, .int (nI n)), (14, .int (nI mB)), (15, .int (nI nn)), (16, .int (nI t)), (20, .int (nI p9)), (21, .int (nI mn)), (22, .int (nI w7)), (23, .ref (ad2 (50 + mB)))]) hx hb dL_law_803 hl (k := 22) rfl (nI_add _ _) (by decide) rfl (fun ls hl => ?_)
            refine lv_goto (tgt := 601) hx hb dL_law_806 (by decide) ?_
            obtain ⟨q1, q2, q3, q4, q5, q6⟩ := PI_line hv hk3 hmB hW hby hsm hs9 (by omega) (by omega) (by omega) (by omega) (by omega) hg8 hv3 hu4 eu79 eu80
            refine W.widen (k := 1001 + 4000 * t + 4 * (k + 1)) (n := 10004 + 40000 * t + 24 * (k + 1)) (by omega) (by omega) ?_
            exact ih601 u80 (k + 1) (sm + (1 + w54) * (1 + w73)) q1 (by omega) q2 q3 q4 q5 (q6 _ hcl1) (PA_x hAv (q6 _ hAv.2.2.2.2.2.1)) (by omega) H locs ls h (lv_sub hl [4, 5, 6, 7, 8, 9, 10, 11, 12, 13, 14, 15, 16, 17, 18, 19, 20, 21, 22, 1, 0] rfl)
  refine W.widen (k := 1001 + 4000 * t + 4 * 0) (n := 10004 + 40000 * t + 24 * 0) (by omega) (by omega) ?_
  exact L601 (mn + 1) v0 0 0 hI0 (by omega) hW0 (fun j hj => absurd hj (by omega)) rfl (by omega) hcl0 (PA_K hA9 (fun _ _ => by rw [hv0]; rfl) (fun _ => by rw [hv0]; rfl)) (by omega) H locs ls h (lv_sub hl [7, 8, 9, 10, 11, 12, 13, 14, 15, 16, 17, 18, 19, 20, 21, 5, 4, 3, 2, 1, 0] rfl)
