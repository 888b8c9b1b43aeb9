/-- a row that the class doesn't know is nothing to what is owed -/
theorem owF_42 (st : XS) (f : Nat → Int32) (mB : Nat) (k : Int32) : ∀ i, owF (sa st 42 f) mB k i = owF st mB k i := by
  intro i
  induction i with
  | zero => rfl
  | succ i ih => rw [owF, owF, ih]; rfl
set_option maxHeartbeats 4000000 in
set_option maxRecDepth 100000 in
theorem br_tail {p : Program} {e : Env} {s : State} {m : MethodId} {below : List Frame} {meth : Method} {c : Code} (l : Launch) (hl0 : l.stackTraces = false) {D : va_G} {cy : Nat → ClassId} {b L : Nat} {xs : Nat → Int32} (C : xCx p m c code 31 s #[Value.ref b] RL D cy) (hE : xScr b L xs (lwA s) s s.heap) (hL9 : L ≤ 260) {t : Nat} (ht40 : t < 40) {ad : Nat → Nat} {Ls : List Nat} {st : XS} {H : Heap} {locs : List Loc} {ls : Array Slot} {bd at9 d n mB nn p9 : Nat} {ln : Nat → Nat} (h : xH D cy ad Ls (lwA s) s st H locs) (hI : PI Ls st bd d n mB nn ln) (hat : at9 ≤ 1 + 5 * (t + 1)) (hd : d ≤ 4 * (t + 1)) (hp2 : p9 < 2) (hl : lv_has ls 31 [(20, .int (nI p9)), (0, .ref b), (1, .ref (ad 0)), (2, .int (nI bd)), (3, .int (nI at9)), (6, .ref (ad 31)), (7, .ref (ad 32)), (8, .ref (ad 33)), (9, .ref (ad 34)), (10, .ref (ad 35)), (11, .ref (ad 36)), (12, .int (nI d)), (13, .int (nI n)), (14, .int (nI mB)), (15, .int (nI nn)), (16, .int (nI t))]) (K : K98 p l e s m below meth c D cy b bd (t + 1)) : W p l e room_1 s m #[Value.ref b] below meth c H locs (3000 + 4000 * t) (40000 + 40000 * t) (lw_Z below #[Value.ref b] s) (F0 m 1478 ls []) := by
  have hx := C.1
  have hb := C.2.1
  have hI9 := hI
  obtain ⟨hA9, hPR, hPM, hPD, hPB, hPN, hPF⟩ := hI
  have hL := hA9.1
  have hR9 := hA9.2.1
  have hm7 : mB ≤ 7 := hA9.2.2.2.2.2.2.2.2
  have hn15 := hPR.1
  have hRD := RD_of hA9 hPD hPB
  have hcl := hA9.2.2.2.2.2.1
  have h42n : 42 ∉ Ls := hA9.2.2.2.2.2.2.1 42 (by decide) (by decide)
  refine lv_iconst (v := nI 4) hx hb dL_law_1478 (by decide) ?_
  refine x_mkI C h hcl (k := 42) h42n rfl (by decide) (by show _ ≤ 754712; omega) (by show _ ≤ 6837489; omega) dL_law_1479 (fun ad2 H had h hcl2 => ?_)
  obtain ⟨v0, ev0⟩ : ∃ z9, z9 = sa st 42 (fun _ => 0) := ⟨_, rfl⟩
  rw [← ev0] at h
  have hl : lv_has ls 31 [(20, .int (nI p9)), (0, .ref b), (1, .ref (ad2 0)), (2, .int (nI bd)), (3, .int (nI at9)), (6, .ref (ad2 31)), (7, .ref (ad2 32)), (8, .ref (ad2 33)), (9, .ref (ad2 34)), (10, .ref (ad2 35)), (11, .ref (ad2 36)), (12, .int (nI d)), (13, .int (nI n)), (14, .int (nI mB)), (15, .int (nI nn)), (16, .int (nI t))] := by rw [had 0 (hL 0 rfl), had 31 (hR9 31 (by decide) (by decide)), had 32 (hR9 32 (by decide) (by decide)), had 33 (hR9 33 (by decide) (by decide)), had 34 (hR9 34 (by decide) (by decide)), had 35 (hR9 35 (by decide) (by decide)), had 36 (hR9 36 (by decide) (by decide))]; exact hl
  refine lv_astore (lv' := [(21, .ref (ad2 42)), (20, .int (nI p9)), (0, .ref b), (1, .ref (ad2 0)), (2, .int (nI bd)), (3, .int (nI at9)), (6, .ref (ad2 31)), (7, .ref (ad2 32)), (8, .ref (ad2 33)), (9, .ref (ad2 34)), (10, .ref (ad2 35)), (11, .ref (ad2 36)), (12, .int (nI d)), (13, .int (nI n)), (14, .int (nI mB)), (15, .int (nI nn)), (16, .int (nI t))]) hx hb dL_law_1481 hl (by decide) rfl (fun ls hl => ?_)
  refine lv_iconst (v := nI 0) hx hb dL_law_1483 (by decide) ?_
  refine lv_istore (lv' := [(22, .int (nI 0)), (21, .ref (ad2 42)), (20, .int (nI p9)), (0, .ref b), (1, .ref (ad2 0)), (2, .int (nI bd)), (3, .int (nI at9)), (6, .ref (ad2 31)), (7, .ref (ad2 32)), (8, .ref (ad2 33)), (9, .ref (ad2 34)), (10, .ref (ad2 35)), (11, .ref (ad2 36)), (12, .int (nI d)), (13, .int (nI n)), (14, .int (nI mB)), (15, .int (nI nn)), (16, .int (nI t))]) hx hb dL_law_1484 hl (by decide) rfl (fun ls hl => ?_)
  have L1486 : ∀ (N1486 : Nat) (v : XS) (i : Nat) (hv : v = sa st 42 (lOw st i)) (hi : i ≤ mB) (hN : mB - i < N1486) (H : Heap) (locs : List Loc) (ls : Array Slot), xH D cy ad2 (Ls ++ [42]) (lwA s) s v H locs → lv_has ls 31 [(0, .ref b), (1, .ref (ad2 0)), (2, .int (nI bd)), (3, .int (nI at9)), (6, .ref (ad2 31)), (7, .ref (ad2 32)), (8, .ref (ad2 33)), (9, .ref (ad2 34)), (10, .ref (ad2 35)), (11, .ref (ad2 36)), (12, .int (nI d)), (13, .int (nI n)), (14, .int (nI mB)), (15, .int (nI nn)), (16, .int (nI t)), (20, .int (nI p9)), (21, .ref (ad2 42)), (22, .int (nI i))] → W p l e room_1 s m #[Value.ref b] below meth c H locs (3001 + 4000 * t + 8 * i) (40004 + 40000 * t + 48 * i) (lw_Z below #[Value.ref b] s) (F0 m 1486 ls []) := by
    intro N1486
    induction N1486 with
    | zero => intro v i hv hi hN; omega
    | succ N1486 ih1486 =>
      intro v i hv hi hN H locs ls h hl
      refine lv_iload hx hb dL_law_1486 (lv_at hl 17 rfl) ?_
      refine lv_iload hx hb dL_law_1488 (lv_at hl 12 rfl) ?_
      refine x_icmpN_ge (tgt := 1569) hx hb dL_law_1490 (by decide) (by omega) (by omega) (fun c1490 => ?_) (fun c1490 => ?_)
      · refine lv_iconst (v := nI 0) hx hb dL_law_1569 (by decide) ?_
        refine lv_istore (lv' := [(22, .int (nI 0)), (0, .ref b), (1, .ref (ad2 0)), (2, .int (nI bd)), (3, .int (nI at9)), (6, .ref (ad2 31)), (7, .ref (ad2 32)), (8, .ref (ad2 33)), (9, .ref (ad2 34)), (10, .ref (ad2 35)), (11, .ref (ad2 36)), (12, .int (nI d)), (13, .int (nI n)), (14, .int (nI mB)), (15, .int (nI nn)), (16, .int (nI t)), (20, .int (nI p9)), (21, .ref (ad2 42))]) hx hb dL_law_1570 hl (by decide) rfl (fun ls hl => ?_)
        have L1572 : ∀ (N1572 : Nat) (k : Nat) (hk : k ≤ 4) (hN : 4 - k < N1572) (H : Heap) (locs : List Loc) (ls : Array Slot), xH D cy ad2 (Ls ++ [42]) (lwA s) s v H locs → lv_has ls 31 [(0, .ref b), (1, .ref (ad2 0)), (2, .int (nI bd)), (3, .int (nI at9)), (6, .ref (ad2 31)), (7, .ref (ad2 32)), (8, .ref (ad2 33)), (9, .ref (ad2 34)), (10, .ref (ad2 35)), (11, .ref (ad2 36)), (12, .int (nI d)), (13, .int (nI n)), (14, .int (nI mB)), (15, .int (nI nn)), (16, .int (nI t)), (20, .int (nI p9)), (21, .ref (ad2 42)), (22, .int (nI k))] → W p l e room_1 s m #[Value.ref b] below meth c H locs (3101 + 4000 * t + 4 * k) (40804 + 40000 * t + 24 * k) (lw_Z below #[Value.ref b] s) (F0 m 1572 ls []) := by
          intro N1572
          induction N1572 with
          | zero => intro k hk hN; omega
          | succ N1572 ih1572 =>
            intro k hk hN H locs ls h hl
            refine lv_iload hx hb dL_law_1572 (lv_at hl 17 rfl) ?_
            refine lv_iconst (v := nI 4) hx hb dL_law_1574 (by decide) ?_
            refine x_icmpN_ge (tgt := 1600) hx hb dL_law_1575 (by decide) (by omega) (by omega) (fun c1575 => ?_) (fun c1575 => ?_)
            · refine lv_iconst (v := nI 0) hx hb dL_law_1600 (by decide) ?_
              refine lv_istore (lv' := [(22, .int (nI 0)), (0, .ref b), (1, .ref (ad2 0)), (2, .int (nI bd)), (3, .int (nI at9)), (6, .ref (ad2 31)), (7, .ref (ad2 32)), (8, .ref (ad2 33)), (9, .ref (ad2 34)), (10, .ref (ad2 35)), (11, .ref (ad2 36)), (12, .int (nI d)), (13, .int (nI n)), (14, .int (nI mB)), (15, .int (nI nn)), (16, .int (nI t)), (20, .int (nI p9)), (21, .ref (ad2 42))]) hx hb dL_law_1601 hl (by decide) rfl (fun ls hl => ?_)
              have L1603 : ∀ (N1603 : Nat) (k3 : Nat) (hk3 : k3 ≤ 3) (hN : 3 - k3 < N1603) (H : Heap) (locs : List Loc) (ls : Array Slot), xH D cy ad2 (Ls ++ [42]) (lwA s) s v H locs → lv_has ls 31 [(0, .ref b), (1, .ref (ad2 0)), (2, .int (nI bd)), (3, .int (nI at9)), (6, .ref (ad2 31)), (7, .ref (ad2 32)), (8, .ref (ad2 33)), (9, .ref (ad2 34)), (10, .ref (ad2 35)), (11, .ref (ad2 36)), (12, .int (nI d)), (13, .int (nI n)), (14, .int (nI mB)), (15, .int (nI nn)), (16, .int (nI t)), (20, .int (nI p9)), (21, .ref (ad2 42)), (22, .int (nI k3))] → W p l e room_1 s m #[Value.ref b] below meth c H locs (3201 + 4000 * t + 4 * k3) (41804 + 40000 * t + 24 * k3) (lw_Z below #[Value.ref b] s) (F0 m 1603 ls []) := by
                intro N1603
                induction N1603 with
                | zero => intro k3 hk3 hN; omega
                | succ N1603 ih1603 =>
                  intro k3 hk3 hN H locs ls h hl
                  refine lv_iload hx hb dL_law_1603 (lv_at hl 17 rfl) ?_
                  refine lv_iconst (v := nI 3) hx hb dL_law_1605 (by decide) ?_
                  refine x_icmpN_ge (tgt := 1643) hx hb dL_law_1606 (by decide) (by omega) (by omega) (fun c1606 => ?_) (fun c1606 => ?_)
                  · refine lv_iinc (v := nI (t + 1)) (lv' := [(16, .int (nI (t + 1))), (0, .ref b), (1, .ref (ad2 0)), (2, .int (nI bd)), (3, .int (nI at9)), (6, .ref (ad2 31)), (7, .ref (ad2 32)), (8, .ref (ad2 33)), (9, .ref (ad2 34)), (10, .ref (ad2 35)), (11, .ref (ad2 36)), (12, .int (nI d)), (13, .int (nI n)), (14, .int (nI mB)), (15, .int (nI nn)), (20, .int (nI p9)), (21, .ref (ad2 42)), (22, .int (nI k3))]) hx hb dL_law_1643 hl (k := 14) rfl (nI_add _ _) (by decide) rfl (fun ls hl => ?_)
                    refine lv_goto (tgt := 198) hx hb dL_law_1646 (by decide) ?_
                    refine W.widen (k := 1000 + 4000 * (t + 1)) (n := 10000 + 40000 * (t + 1)) (by omega) (by omega) ?_
                    have h := x_back (st := st) h had (fun j hj => by rw [hv]; exact x_agsa (fun q => h42n (q ▸ hj))) hcl
                    have hl : lv_has ls 31 [(16, .int (nI (t + 1))), (0, .ref b), (1, .ref (ad 0)), (2, .int (nI bd)), (3, .int (nI at9)), (6, .ref (ad 31)), (7, .ref (ad 32)), (8, .ref (ad 33)), (9, .ref (ad 34)), (10, .ref (ad 35)), (11, .ref (ad 36)), (12, .int (nI d)), (13, .int (nI n)), (14, .int (nI mB)), (15, .int (nI nn))] := by rw [← had 0 (hL 0 rfl), ← had 31 (hR9 31 (by decide) (by decide)), ← had 32 (hR9 32 (by decide) (by decide)), ← had 33 (hR9 33 (by decide) (by decide)), ← had 34 (hR9 34 (by decide) (by decide)), ← had 35 (hR9 35 (by decide) (by decide)), ← had 36 (hR9 36 (by decide) (by decide))]; exact lv_sub hl [0, 1, 2, 3, 4, 5, 6, 7, 8, 9, 10, 11, 12, 13, 14] rfl
                    exact K ad Ls st H locs ls at9 d n mB nn ln hat hd h hI9 (lv_sub hl [1, 2, 3, 4, 5, 6, 7, 8, 9, 10, 11, 12, 13, 14, 0] rfl)
                  · refine lv_aload_n hx hb dL_law_1609 rfl (lv_at hl 1 rfl) ?_
                    refine lv_iload hx hb dL_law_1610 (lv_at hl 15 rfl) ?_
                    refine lv_iload hx hb dL_law_1612 (lv_at hl 17 rfl) ?_
                    refine lv_iload hx hb dL_law_1614 (lv_at hl 10 rfl) ?_
                    refine cx_L_117 C h (List.mem_append_left _ (hL 0 rfl)) rfl (c_X7_telling l hl0 D cy ad2 (Ls ++ [42]) v (RD_app hRD).1 n (by omega) (by rw [hv]; exact hPR.2.1) (nI p9) (nI k3) (nI d)) (by decide) ⟨by show _ ≤ 754712; omega, by show _ ≤ 6837489; omega⟩ hl.1 (Nat.le_of_ble_eq_true rfl) dL_law_1616 (x_noX (kTell_0 (by omega) (by omega) (by omega))) (fun r2 u1 H locs hp h => ?_)
                    obtain ⟨-, er, eu⟩ := hp; rw [eu] at h; clear eu u1; refine x_topi (y := oI (knoS st n (nI p9) (nI k3) (nI d))) (er.trans (by rw [knS_o, hv]; rfl)) ?_; clear er r2
                    refine lv_aload hx hb dL_law_1619 (lv_at hl 4 rfl) ?_
                    refine lv_iload hx hb dL_law_1621 (lv_at hl 11 rfl) ?_
                    refine lv_iload hx hb dL_law_1623 (lv_at hl 15 rfl) ?_
                    refine lv_iload hx hb dL_law_1625 (lv_at hl 17 rfl) ?_
                    refine lv_iload hx hb dL_law_1627 (lv_at hl 10 rfl) ?_
                    refine cl_L_10 C h (c_L_telling l D cy ad2 (Ls ++ [42]) v (List.mem_append_left _ (hR9 31 (by decide) (by decide))) n hn15 (by rw [hv]; exact hPR.2.2) (nI p9) (nI k3) (nI d)) (by decide) ⟨by show _ ≤ 754712; omega, by show _ ≤ 6837489; omega⟩ hl.1 (Nat.le_of_ble_eq_true rfl) dL_law_1629 (fun r4 u3 H locs hp h => ?_)
                    obtain ⟨er4, eu3⟩ := hp; rw [eu3] at h; clear eu3 u3; refine x_topi er4 ?_; clear er4 r4
                    refine x_topi (y := oI (knoS st n (nI p9) (nI k3) (nI d))) (by rw [hv]; rfl) ?_
                    refine x_icmp_eq_t (tgt := 1637) hx hb dL_law_1632 (by decide) rfl ?_
                    refine lv_iinc (v := nI (k3 + 1)) (lv' := [(22, .int (nI (k3 + 1))), (0, .ref b), (1, .ref (ad2 0)), (2, .int (nI bd)), (3, .int (nI at9)), (6, .ref (ad2 31)), (7, .ref (ad2 32)), (8, .ref (ad2 33)), (9, .ref (ad2 34)), (10, .ref (ad2 35)), (11, .ref (ad2 36)), (12, .int (nI d)), (13, .int (nI n)), (14, .int (nI mB)), (15, .int (nI nn)), (16, .int (nI t)), (20, .int (nI p9)), (21, .ref (ad2 42))]) hx hb dL_law_1637 hl (k := 17) rfl (nI_add _ _) (by decide) rfl (fun ls hl => ?_)
                    refine lv_goto (tgt := 1603) hx hb dL_law_1640 (by decide) ?_
                    refine W.widen (k := 3201 + 4000 * t + 4 * (k3 + 1)) (n := 41804 + 40000 * t + 24 * (k3 + 1)) (by omega) (by omega) ?_
                    exact ih1603 (k3 + 1) (by omega) (by omega) H locs ls h (lv_sub hl [1, 2, 3, 4, 5, 6, 7, 8, 9, 10, 11, 12, 13, 14, 15, 16, 17, 0] rfl)
              refine W.widen (k := 3201 + 4000 * t + 4 * 0) (n := 41804 + 40000 * t + 24 * 0) (by omega) (by omega) ?_
              exact L1603 4 0 (by omega) (by omega) H locs ls h (lv_sub hl [1, 2, 3, 4, 5, 6, 7, 8, 9, 10, 11, 12, 13, 14, 15, 16, 17, 0] rfl)
            · refine lv_aload_n hx hb dL_law_1578 rfl (lv_at hl 1 rfl) ?_
              refine lv_iload hx hb dL_law_1579 (lv_at hl 17 rfl) ?_
              refine cx_L_114 C h (List.mem_append_left _ (hL 0 rfl)) rfl (r_owed l D cy ad2 hl0 (RD_K (RD_app hRD) (fun q9 _ => by rw [hv]; rfl) (by rw [hv]; rfl)) (nI k)) (by decide) ⟨by show _ ≤ 754712; omega, by show _ ≤ 6837489; omega⟩ hl.1 (Nat.le_of_ble_eq_true rfl) dL_law_1581 (x_noX (kPlace_0 (by omega))) (fun r6 u5 H locs hp h => ?_)
              obtain ⟨-, er, eu⟩ := hp; rw [eu] at h; clear eu u5; refine x_topi (y := owF st mB (nI k) 30) (er.trans (by rw [hv]; exact owF_42 ..)) ?_; clear er r6
              refine lv_aload hx hb dL_law_1584 (lv_at hl 16 rfl) ?_
              refine lv_iload hx hb dL_law_1586 (lv_at hl 17 rfl) ?_
              refine x_ald C h (List.mem_append_right _ (List.mem_singleton.mpr rfl)) (n := 4) rfl k (by omega) (by decide) rfl dL_law_1588 ?_
              rw [(show ga v 42 = lOw st i by rw [hv]; exact ga_self ..)]
              refine x_topi (y := lOw st mB k) (by rw [show i = mB by omega]) ?_
              refine x_icmp_eq_t (tgt := 1594) hx hb dL_law_1589 (by decide) (owF_e hPB hm7 (by omega)) ?_
              refine lv_iinc (v := nI (k + 1)) (lv' := [(22, .int (nI (k + 1))), (0, .ref b), (1, .ref (ad2 0)), (2, .int (nI bd)), (3, .int (nI at9)), (6, .ref (ad2 31)), (7, .ref (ad2 32)), (8, .ref (ad2 33)), (9, .ref (ad2 34)), (10, .ref (ad2 35)), (11, .ref (ad2 36)), (12, .int (nI d)), (13, .int (nI n)), (14, .int (nI mB)), (15, .int (nI nn)), (16, .int (nI t)), (20, .int (nI p9)), (21, .ref (ad2 42))]) hx hb dL_law_1594 hl (k := 17) rfl (nI_add _ _) (by decide) rfl (fun ls hl => ?_)
              refine lv_goto (tgt := 1572) hx hb dL_law_1597 (by decide) ?_
              refine W.widen (k := 3101 + 4000 * t + 4 * (k + 1)) (n := 40804 + 40000 * t + 24 * (k + 1)) (by omega) (by omega) ?_
              exact ih1572 (k + 1) (by omega) (by omega) H locs ls h (lv_sub hl [1, 2, 3, 4, 5, 6, 7, 8, 9, 10, 11, 12, 13, 14, 15, 16, 17, 0] rfl)
        refine W.widen (k := 3101 + 4000 * t + 4 * 0) (n := 40804 + 40000 * t + 24 * 0) (by omega) (by omega) ?_
        exact L1572 5 0 (by omega) (by omega) H locs ls h (lv_sub hl [1, 2, 3, 4, 5, 6, 7, 8, 9, 10, 11, 12, 13, 14, 15, 16, 17, 0] rfl)
      · have hB := hPB.2 i (by omega)
        obtain ⟨q1, q2, q3⟩ := plN_of hB
        refine lv_aload hx hb dL_law_1493 (lv_at hl 16 rfl) ?_
        refine lv_aload hx hb dL_law_1495 (lv_at hl 5 rfl) ?_
        refine lv_bipush (v := nI 7) hx hb dL_law_1497 (by decide) ?_
        refine lv_iload hx hb dL_law_1499 (lv_at hl 17 rfl) ?_
        refine x_mulN hx hb dL_law_1501 ?_
        refine lv_iconst (v := nI 3) hx hb dL_law_1502 (by decide) ?_
        refine x_addN hx hb dL_law_1503 ?_
        refine x_ald C h (List.mem_append_left _ (hR9 32 (by decide) (by decide))) (n := 64) rfl ((7 * i) + 3) (by omega) (by decide) rfl dL_law_1504 ?_
        refine x_topi (y := nI (plN st i)) (by rw [hv]; exact q1) ?_
        refine lv_dup2_11 hx hb dL_law_1505 rfl rfl ?_
        refine x_ald C h (List.mem_append_right _ (List.mem_singleton.mpr rfl)) (n := 4) rfl (plN st i) (by omega) (by decide) rfl dL_law_1506 ?_
        rw [(show ga v 42 = lOw st i by rw [hv]; exact ga_self ..)]
        refine lv_aload hx hb dL_law_1507 (lv_at hl 5 rfl) ?_
        refine lv_bipush (v := nI 7) hx hb dL_law_1509 (by decide) ?_
        refine lv_iload hx hb dL_law_1511 (lv_at hl 17 rfl) ?_
        refine x_mulN hx hb dL_law_1513 ?_
        refine lv_bipush (v := nI 6) hx hb dL_law_1514 (by decide) ?_
        refine x_addN hx hb dL_law_1516 ?_
        refine x_ald C h (List.mem_append_left _ (hR9 32 (by decide) (by decide))) (n := 64) rfl ((7 * i) + 6) (by omega) (by decide) rfl dL_law_1517 ?_
        refine x_topi (y := ga st 32 (7 * i + 6)) (by rw [hv]; rfl) ?_
        refine lv_iadd hx hb dL_law_1518 ?_
        refine x_ast C h (List.mem_append_right _ (List.mem_singleton.mpr rfl)) (n := 4) rfl (plN st i) (by omega) (by decide) rfl dL_law_1519 (fun H locs u7 eu7 h => ?_)
        have e9 : ga u7 42 = (upd (lOw st i) (plN st i) (((lOw st i) (plN st i)) + (ga st 32 (7 * i + 6)))) := by rw [eu7, ga_self, (show ga v 42 = lOw st i by rw [hv]; exact ga_self ..)]
        have hv2 : u7 = sa st 42 (lOw st (i + 1)) := by rw [eu7, hv, sa_sa, ga_self]; rfl
        refine lv_aload_n hx hb dL_law_1520 rfl (lv_at hl 1 rfl) ?_
        refine lv_iload hx hb dL_law_1521 (lv_at hl 17 rfl) ?_
        refine lv_iconst (v := nI 4) hx hb dL_law_1523 (by decide) ?_
        refine cx_L_86 C h (List.mem_append_left _ (hL 0 rfl)) rfl (r_invoice l D cy ad2 hl0 (RD_K (RD_app hRD) (fun q9 _ => by rw [hv2]; rfl) (by rw [hv2]; rfl)) (nI i) (nI 4)) (by decide) ⟨by show _ ≤ 754712; omega, by show _ ≤ 6837489; omega⟩ hl.1 (Nat.le_of_ble_eq_true rfl) dL_law_1524 (x_noX (kInv_0 (by omega) (by omega) (by decide))) (fun r11 u10 H locs hp h => ?_)
        obtain ⟨er, eu⟩ := inv_post (by omega) (by omega) hp; clear hp; rw [eu] at h; clear eu u10; rw [inv4] at er; refine x_topi er ?_; clear er r11
        refine lv_aload hx hb dL_law_1527 (lv_at hl 5 rfl) ?_
        refine lv_bipush (v := nI 7) hx hb dL_law_1529 (by decide) ?_
        refine lv_iload hx hb dL_law_1531 (lv_at hl 17 rfl) ?_
        refine x_mulN hx hb dL_law_1533 ?_
        refine lv_iconst (v := nI 5) hx hb dL_law_1534 (by decide) ?_
        refine x_addN hx hb dL_law_1535 ?_
        refine x_ald C h (List.mem_append_left _ (hR9 32 (by decide) (by decide))) (n := 64) rfl ((7 * i) + 5) (by omega) (by decide) rfl dL_law_1536 ?_
        refine x_topi (y := ga st 32 (7 * i + 5)) (by rw [hv2]; rfl) ?_
        refine x_icmp_ne_f (tgt := 1561) hx hb dL_law_1537 (by decide) (by rw [hv2]; obtain ⟨x8, -, q4, q5⟩ := hB.2.2.2.2.2.2.2.2.2.1; exact q4.trans q5.symm) ?_
        refine lv_aload_n hx hb dL_law_1540 rfl (lv_at hl 1 rfl) ?_
        refine lv_iload hx hb dL_law_1541 (lv_at hl 17 rfl) ?_
        refine lv_iconst (v := nI 5) hx hb dL_law_1543 (by decide) ?_
        refine cx_L_86 C h (List.mem_append_left _ (hL 0 rfl)) rfl (r_invoice l D cy ad2 hl0 (RD_K (RD_app hRD) (fun q9 _ => by rw [hv2]; rfl) (by rw [hv2]; rfl)) (nI i) (nI 5)) (by decide) ⟨by show _ ≤ 754712; omega, by show _ ≤ 6837489; omega⟩ hl.1 (Nat.le_of_ble_eq_true rfl) dL_law_1544 (x_noX (kInv_0 (by omega) (by omega) (by decide))) (fun r13 u12 H locs hp h => ?_)
        obtain ⟨er, eu⟩ := inv_post (by omega) (by omega) hp; clear hp; rw [eu] at h; clear eu u12; rw [inv5] at er; refine x_topi er ?_; clear er r13
        refine lv_aload hx hb dL_law_1547 (lv_at hl 5 rfl) ?_
        refine lv_bipush (v := nI 7) hx hb dL_law_1549 (by decide) ?_
        refine lv_iload hx hb dL_law_1551 (lv_at hl 17 rfl) ?_
        refine x_mulN hx hb dL_law_1553 ?_
        refine lv_bipush (v := nI 6) hx hb dL_law_1554 (by decide) ?_
        refine x_addN hx hb dL_law_1556 ?_
        refine x_ald C h (List.mem_append_left _ (hR9 32 (by decide) (by decide))) (n := 64) rfl ((7 * i) + 6) (by omega) (by decide) rfl dL_law_1557 ?_
        refine x_topi (y := ga st 32 (7 * i + 6)) (by rw [hv2]; rfl) ?_
        refine x_icmp_eq_t (tgt := 1563) hx hb dL_law_1558 (by decide) (by rw [hv2]; exact hB.2.2.2.2.2.2.2.2.2.2.1.symm) ?_
        refine lv_iinc (v := nI (i + 1)) (lv' := [(22, .int (nI (i + 1))), (0, .ref b), (1, .ref (ad2 0)), (2, .int (nI bd)), (3, .int (nI at9)), (6, .ref (ad2 31)), (7, .ref (ad2 32)), (8, .ref (ad2 33)), (9, .ref (ad2 34)), (10, .ref (ad2 35)), (11, .ref (ad2 36)), (12, .int (nI d)), (13, .int (nI n)), (14, .int (nI mB)), (15, .int (nI nn)), (16, .int (nI t)), (20, .int (nI p9)), (21, .ref (ad2 42))]) hx hb dL_law_1563 hl (k := 17) rfl (nI_add _ _) (by decide) rfl (fun ls hl => ?_)
        refine lv_goto (tgt := 1486) hx hb dL_law_1566 (by decide) ?_
        refine W.widen (k := 3001 + 4000 * t + 8 * (i + 1)) (n := 40004 + 40000 * t + 48 * (i + 1)) (by omega) (by omega) ?_
        exact ih1486 u7 (i + 1) hv2 (by omega) (by omega) H locs ls h (lv_sub hl [1, 2, 3, 4, 5, 6, 7, 8, 9, 10, 11, 12, 13, 14, 15, 16, 17, 0] rfl)
  refine W.widen (k := 3001 + 4000 * t + 8 * 0) (n := 40004 + 40000 * t + 48 * 0) (by omega) (by omega) ?_
  exact L1486 (mB + 1) v0 0 ev0 (by omega) (by omega) H locs ls h (lv_sub hl [3, 4, 5, 6, 7, 8, 9, 10, 11, 12, 13, 14, 15, 16, 17, 2, 1, 0] rfl)
