/-! ===== the reference: writes ===== -/
theorem ww_id (st : XS) : wwS st (gi st 9 30, gl st 50 30, gi st 45 30, gi st 46 30, gi st 47 30, gi st 49 30) = st := by
  refine XS_ext (fun F k => ?_) (fun F k => ?_) (fun _ _ => rfl) (fun _ => rfl) (fun _ => rfl)
  · rw [gi_ww]; repeat' split
    all_goals first | rfl | (next h => obtain ⟨rfl, rfl⟩ := h; rfl)
  · rw [gl_ww]; split
    · next h => obtain ⟨rfl, rfl⟩ := h; rfl
    · rfl
/-- at, (written, found), the line, the loop's place -/
abbrev WQ : Type := Nat × (Int32 × Int32) × Option Nat × Int32
section WQ
variable (X mk bo ot : Nat → Int32) (nm : Option Nat → Int32 → Int32) (n : Nat) (wn : Int32)
def okN (o : Option Nat) (x : Int32) : Prop := o = none → nmL0.contains x = true
/-- one step of writing -/
def WStp (s9 t9 : WQ) : Prop := s9.1 < 160 ∧ (X s9.1 = nI 123 → s9.1 < 158) ∧ t9.1 ≤ 160 ∧ (
  (X s9.1 = nI 123 ∧ X (s9.1 + 1) = nI 42 ∧ 0 < n ∧ bo s9.1 = nI t9.1 ∧ t9 = (t9.1, s9.2.1, some 0, nI t9.1)) ∨
  (X s9.1 = nI 123 ∧ X (s9.1 + 1) = nI 63 ∧ (∃ c1 r1 c2 r2, KS X (nm s9.2.2.1) (okN s9.2.2.1) c1 r1 (s9.1 + 2) (nI 1) 0 ∧ c1 < 160 ∧ KS X (nm s9.2.2.1) (okN s9.2.2.1) c2 r2 (c1 + 1) (nI 1) 0 ∧ (if cmpR (X c1) r1 r2 then bo s9.1 else ot s9.1) = nI t9.1) ∧ t9 = (t9.1, s9.2)) ∨
  (X s9.1 = nI 123 ∧ ¬ X (s9.1 + 1) = nI 42 ∧ ¬ X (s9.1 + 1) = nI 63 ∧ okN s9.2.2.1 (X (s9.1 + 1)) ∧ ∃ j wd, nm s9.2.2.1 (X (s9.1 + 1)) = nI j ∧ j < 2 ^ 31 ∧ ((X (s9.1 + 2) = nI 125 ∧ t9.1 = s9.1 + 3 ∧ wd = nI 0) ∨ (¬ X (s9.1 + 2) = nI 125 ∧ t9.1 = s9.1 + 4 ∧ wd = X (s9.1 + 2) - nI 48)) ∧ t9 = (t9.1, wPuts wn s9.2.1 (numT j wd.toNatClampNeg), s9.2.2)) ∨
  (¬ X s9.1 = nI 123 ∧ mk s9.1 = nI 1 ∧ (∃ j, s9.2.2.1 = some j ∧ j + 1 < n ∧ s9.2.2.2 = nI t9.1 ∧ t9 = (t9.1, s9.2.1, some (j + 1), s9.2.2.2))) ∨
  (¬ X s9.1 = nI 123 ∧ mk s9.1 = nI 1 ∧ (∃ j, s9.2.2.1 = some j ∧ j < 6 ∧ ¬ j + 1 < n ∧ t9 = (s9.1 + 2, s9.2.1, none, s9.2.2.2))) ∨
  (¬ X s9.1 = nI 123 ∧ mk s9.1 = nI 2 ∧ ot s9.1 = nI t9.1 ∧ t9 = (t9.1, s9.2)) ∨
  (¬ X s9.1 = nI 123 ∧ mk s9.1 = nI 3 ∧ t9 = (s9.1 + 1, s9.2)) ∨
  (¬ X s9.1 = nI 123 ∧ mk s9.1 = nI 0 ∧ t9 = (s9.1 + 1, wPut wn s9.2.1 (X s9.1), s9.2.2)))
def WRun (sz : Nat) : Nat → WQ → WQ → Prop
  | 0, s9, t9 => s9 = t9
  | k + 1, s9, t9 => ∃ u9, s9.1 < sz ∧ WStp X mk bo ot nm n wn s9 u9 ∧ WRun sz k u9 t9
end WQ
/-- what a writing needs, and what comes of it -/
def WD (st : XS) (i9 t9 wn : Int32) (x1 : Int32 × Int32) : Prop := ∃ b n us j sz N o1 lo1, i9 = nI b ∧ b < 30 ∧ n ≤ 6 ∧ ga st 61 b = nI n ∧ (∀ k, k < 6 → (∀ i, us k = some i → i < 60) ∧ ga st 67 (6 * b + k) = oI (us k)) ∧ t9 = nI j ∧ j < 6 ∧ ga st 34 j = nI sz ∧ sz ≤ 160 ∧
  WRun (wRo st 35 (160 * j)) (wRo st 36 (160 * j)) (wRo st 37 (160 * j)) (wRo st 38 (160 * j)) (mnmS st b n us) n wn sz N (0, (nI 0, nI 32), none, gi st 46 30) (sz, x1, o1, lo1)

set_option maxHeartbeats 4000000 in
set_option maxRecDepth 100000 in
theorem c_X8_writesPartL (l : Launch) (D : va_G) (cy : Nat → ClassId) (ad : Nat → Nat) (Ls : List Nat) (st : XS) (hM : ∀ k, k ∈ LsM → k ∈ Ls) (b n : Nat) (hb30 : b < 30) (hn6 : n ≤ 6) (hmany : ga st 61 b = nI n) (o : Option Nat) (ho : ∀ j, o = some j → j < 6) (us : Nat → Option Nat) (hus : ∀ k, k < 6 → (∀ i, us k = some i → i < 60) ∧ ga st 67 (6 * b + k) = oI (us k)) (bs : Nat) (hbs : bs + 160 ≤ 960) (a : Nat) (ha : a < 158) (v0 : Int64) (lo : Int32) (x9 : Int32 × Int32) (h42 : wRo st 35 bs (a + 1) = nI 42) (t1 : Nat) (hbo : ga st 37 (bs + a) = nI t1) : xMv l yX8_writesPart cX8_writesPart 6 5 D cy ad Ls (wwS st (nI a, v0, oI o, lo, x9.1, x9.2)) [.ref (ad 30), .int (nI b), .int (nI bs)] (fun u => u = wwS st (nI t1, v0, oI (some 0), nI t1, x9.1, x9.2)) := by
  intro sz
  refine x_of sz (by decide +kernel) (Nat.le_of_ble_eq_true rfl) ?_
  intro p e s m args below meth c ls hx hb hr hlocks C hsz h hl
  have hl : lv_has ls 6 [(0, .ref (ad 30)), (1, .int (nI b)), (2, .int (nI bs))] := hl
  obtain ⟨H, eH⟩ : ∃ z, z = s.heap := ⟨_, rfl⟩
  obtain ⟨locs, eL⟩ : ∃ z : List Loc, z = [] := ⟨_, rfl⟩
  rw [← eH, ← eL] at h
  rw [← eH, ← eL]
  clear eH eL
  obtain ⟨v, hv⟩ : ∃ v, v = wwS st (nI a, v0, oI o, lo, x9.1, x9.2) := ⟨_, rfl⟩
  rw [← hv] at h
  refine lv_aload_n hx hb dX8_writesPart_0 rfl (lv_at hl 0 rfl) ?_
  refine gf_X8_16 C h (hM 30 (by decide)) rfl (k2 := 35) rfl dX8_writesPart_1 ?_
  refine lv_iload_n hx hb dX8_writesPart_4 rfl (lv_at hl 2 rfl) ?_
  refine lv_aload_n hx hb dX8_writesPart_5 rfl (lv_at hl 0 rfl) ?_
  refine gf_X8_134 C h (hM 30 (by decide)) rfl dX8_writesPart_6 ?_
  refine x_topi (y := nI a) (by rw [hv]; exact gi_ww9) ?_
  refine x_addN hx hb dX8_writesPart_9 ?_
  refine lv_iconst (v := nI 1) hx hb dX8_writesPart_10 (by decide) ?_
  refine x_addN hx hb dX8_writesPart_11 ?_
  refine x_ald C h (hM 35 (by decide)) (n := 960) rfl ((bs + a) + 1) (by omega) (by decide) rfl dX8_writesPart_12 ?_
  refine x_topi (y := ga st 35 ((bs + a) + 1)) (by rw [hv]; rfl) ?_
  refine x_topi (y := wRo st 35 bs (a + 1)) rfl ?_
  refine lv_istore_n (lv' := [(3, .int (wRo st 35 bs (a + 1))), (0, .ref (ad 30)), (1, .int (nI b)), (2, .int (nI bs))]) hx hb dX8_writesPart_13 rfl hl (by decide) rfl (fun ls hl => ?_)
  refine lv_aload_n hx hb dX8_writesPart_14 rfl (lv_at hl 1 rfl) ?_
  refine gf_X8_134 C h (hM 30 (by decide)) rfl dX8_writesPart_15 ?_
  refine x_topi (y := nI a) (by rw [hv]; exact gi_ww9) ?_
  refine lv_istore (lv' := [(4, .int (nI a)), (3, .int (wRo st 35 bs (a + 1))), (0, .ref (ad 30)), (1, .int (nI b)), (2, .int (nI bs))]) hx hb dX8_writesPart_18 hl (by decide) rfl (fun ls hl => ?_)
  refine lv_iload_n hx hb dX8_writesPart_20 rfl (lv_at hl 1 rfl) ?_
  refine lv_bipush (v := nI 42) hx hb dX8_writesPart_21 (by decide) ?_
  refine lv_icmp_ne (tgt := 55) hx hb dX8_writesPart_23 (by decide) (fun q9 => absurd h42 q9) (fun _ => ?_)
  refine lv_aload_n hx hb dX8_writesPart_26 rfl (lv_at hl 2 rfl) ?_
  refine lv_iconst (v := nI 0) hx hb dX8_writesPart_27 (by decide) ?_
  refine pf_X8_234 C h (hM 30 (by decide)) rfl dX8_writesPart_28 (fun H locs u1 eu1 h => ?_)
  rw [hv, ww_45] at eu1
  refine lv_aload_n hx hb dX8_writesPart_31 rfl (lv_at hl 2 rfl) ?_
  refine lv_aload_n hx hb dX8_writesPart_32 rfl (lv_at hl 2 rfl) ?_
  refine gf_X8_22 C h (hM 30 (by decide)) rfl (k2 := 37) rfl dX8_writesPart_33 ?_
  refine lv_iload_n hx hb dX8_writesPart_36 rfl (lv_at hl 4 rfl) ?_
  refine lv_iload hx hb dX8_writesPart_37 (lv_at hl 0 rfl) ?_
  refine x_addN hx hb dX8_writesPart_39 ?_
  refine x_ald C h (hM 37 (by decide)) (n := 1120) rfl (bs + a) (by omega) (by decide) rfl dX8_writesPart_40 ?_
  refine x_topi (y := ga st 37 (bs + a)) (by rw [eu1]; rfl) ?_
  refine x_topi (y := nI t1) hbo ?_
  refine pf_X8_264 C h (hM 30 (by decide)) rfl dX8_writesPart_41 (fun H locs u2 eu2 h => ?_)
  rw [eu1, ww_46] at eu2
  refine lv_aload_n hx hb dX8_writesPart_44 rfl (lv_at hl 2 rfl) ?_
  refine lv_aload_n hx hb dX8_writesPart_45 rfl (lv_at hl 2 rfl) ?_
  refine gf_X8_264 C h (hM 30 (by decide)) rfl dX8_writesPart_46 ?_
  refine x_topi (y := nI t1) (by rw [eu2]; exact gi_ww46) ?_
  refine pf_X8_134 C h (hM 30 (by decide)) rfl dX8_writesPart_49 (fun H locs u3 eu3 h => ?_)
  rw [eu2, ww_9] at eu3
  refine lv_goto (tgt := 164) hx hb dX8_writesPart_52 (by decide) ?_
  exact x_vret C hr hlocks h eu3 dX8_writesPart_164

set_option maxHeartbeats 4000000 in
set_option maxRecDepth 100000 in
theorem c_X8_writesPartC (l : Launch) (D : va_G) (cy : Nat → ClassId) (ad : Nat → Nat) (Ls : List Nat) (st : XS) (hM : ∀ k, k ∈ LsM → k ∈ Ls) (b n : Nat) (hb30 : b < 30) (hn6 : n ≤ 6) (hmany : ga st 61 b = nI n) (o : Option Nat) (ho : ∀ j, o = some j → j < 6) (us : Nat → Option Nat) (hus : ∀ k, k < 6 → (∀ i, us k = some i → i < 60) ∧ ga st 67 (6 * b + k) = oI (us k)) (bs : Nat) (hbs : bs + 160 ≤ 960) (a : Nat) (ha : a < 158) (v0 : Int64) (lo : Int32) (x9 : Int32 × Int32) (h63 : wRo st 35 bs (a + 1) = nI 63) (c1 : Nat) (rr1 : Int64) (hK1 : KS (wRo st 35 bs) (mnmS st b n us o) (fun x => o = none → nmL0.contains x = true) c1 rr1 (a + 2) (nI 1) 0) (hc1 : c1 < 160) (c2 : Nat) (rr2 : Int64) (hK2 : KS (wRo st 35 bs) (mnmS st b n us o) (fun x => o = none → nmL0.contains x = true) c2 rr2 (c1 + 1) (nI 1) 0) (t1 : Nat) (ht : (if cmpR (wRo st 35 bs c1) rr1 rr2 then ga st 37 (bs + a) else ga st 38 (bs + a)) = nI t1) : xMv l yX8_writesPart cX8_writesPart 6 5 D cy ad Ls (wwS st (nI a, v0, oI o, lo, x9.1, x9.2)) [.ref (ad 30), .int (nI b), .int (nI bs)] (fun u => u = wwS st (nI t1, rr2, oI o, lo, x9.1, x9.2)) := by
  intro sz
  refine x_of sz (by decide +kernel) (Nat.le_of_ble_eq_true rfl) ?_
  intro p e s m args below meth c ls hx hb hr hlocks C hsz h hl
  have hl : lv_has ls 6 [(0, .ref (ad 30)), (1, .int (nI b)), (2, .int (nI bs))] := hl
  obtain ⟨H, eH⟩ : ∃ z, z = s.heap := ⟨_, rfl⟩
  obtain ⟨locs, eL⟩ : ∃ z : List Loc, z = [] := ⟨_, rfl⟩
  rw [← eH, ← eL] at h
  rw [← eH, ← eL]
  clear eH eL
  obtain ⟨v, hv⟩ : ∃ v, v = wwS st (nI a, v0, oI o, lo, x9.1, x9.2) := ⟨_, rfl⟩
  rw [← hv] at h
  refine lv_aload_n hx hb dX8_writesPart_0 rfl (lv_at hl 0 rfl) ?_
  refine gf_X8_16 C h (hM 30 (by decide)) rfl (k2 := 35) rfl dX8_writesPart_1 ?_
  refine lv_iload_n hx hb dX8_writesPart_4 rfl (lv_at hl 2 rfl) ?_
  refine lv_aload_n hx hb dX8_writesPart_5 rfl (lv_at hl 0 rfl) ?_
  refine gf_X8_134 C h (hM 30 (by decide)) rfl dX8_writesPart_6 ?_
  refine x_topi (y := nI a) (by rw [hv]; exact gi_ww9) ?_
  refine x_addN hx hb dX8_writesPart_9 ?_
  refine lv_iconst (v := nI 1) hx hb dX8_writesPart_10 (by decide) ?_
  refine x_addN hx hb dX8_writesPart_11 ?_
  refine x_ald C h (hM 35 (by decide)) (n := 960) rfl ((bs + a) + 1) (by omega) (by decide) rfl dX8_writesPart_12 ?_
  refine x_topi (y := ga st 35 ((bs + a) + 1)) (by rw [hv]; rfl) ?_
  refine x_topi (y := wRo st 35 bs (a + 1)) rfl ?_
  refine lv_istore_n (lv' := [(3, .int (wRo st 35 bs (a + 1))), (0, .ref (ad 30)), (1, .int (nI b)), (2, .int (nI bs))]) hx hb dX8_writesPart_13 rfl hl (by decide) rfl (fun ls hl => ?_)
  refine lv_aload_n hx hb dX8_writesPart_14 rfl (lv_at hl 1 rfl) ?_
  refine gf_X8_134 C h (hM 30 (by decide)) rfl dX8_writesPart_15 ?_
  refine x_topi (y := nI a) (by rw [hv]; exact gi_ww9) ?_
  refine lv_istore (lv' := [(4, .int (nI a)), (3, .int (wRo st 35 bs (a + 1))), (0, .ref (ad 30)), (1, .int (nI b)), (2, .int (nI bs))]) hx hb dX8_writesPart_18 hl (by decide) rfl (fun ls hl => ?_)
  refine lv_iload_n hx hb dX8_writesPart_20 rfl (lv_at hl 1 rfl) ?_
  refine lv_bipush (v := nI 42) hx hb dX8_writesPart_21 (by decide) ?_
  refine lv_icmp_ne (tgt := 55) hx hb dX8_writesPart_23 (by decide) (fun _ => ?_) (fun q9 => absurd (h63.symm.trans q9) (by decide))
  refine lv_iload_n hx hb dX8_writesPart_55 rfl (lv_at hl 1 rfl) ?_
  refine lv_bipush (v := nI 63) hx hb dX8_writesPart_56 (by decide) ?_
  refine lv_icmp_ne (tgt := 102) hx hb dX8_writesPart_58 (by decide) (fun q9 => absurd h63 q9) (fun _ => ?_)
  refine lv_aload_n hx hb dX8_writesPart_61 rfl (lv_at hl 2 rfl) ?_
  refine lv_aload_n hx hb dX8_writesPart_62 rfl (lv_at hl 2 rfl) ?_
  refine lv_iload_n hx hb dX8_writesPart_63 rfl (lv_at hl 3 rfl) ?_
  refine lv_iload_n hx hb dX8_writesPart_64 rfl (lv_at hl 4 rfl) ?_
  refine lv_iload hx hb dX8_writesPart_65 (lv_at hl 0 rfl) ?_
  refine lv_iconst (v := nI 2) hx hb dX8_writesPart_67 (by decide) ?_
  refine x_addN hx hb dX8_writesPart_68 ?_
  rw [hv] at h
  refine cl_X8_267 C h (hM 30 (by decide)) rfl (c_X8_holds l D cy ad Ls st hM b n hb30 hn6 hmany o ho us hus bs hbs (a + 2) (by omega) (nI a) v0 lo x9.1 x9.2 c1 rr1 hK1 hc1 c2 rr2 hK2) (x_room (by omega)) ⟨Nat.zero_le _, Nat.zero_le _⟩ hl.1 (Nat.le_of_ble_eq_true rfl) dX8_writesPart_69 (fun r2 u1 H locs hp h => ?_)
  obtain ⟨er, Eu1⟩ := hp; refine x_topi (y := bi (cmpR (wRo st 35 bs c1) rr1 rr2)) er ?_; clear er r2
  refine x_ifb_eq (tgt := 87) hx hb dX8_writesPart_72 (by decide) (fun c72 => ?_) (fun c72 => ?_)
  · refine lv_aload_n hx hb dX8_writesPart_87 rfl (lv_at hl 2 rfl) ?_
    refine gf_X8_25 C h (hM 30 (by decide)) rfl (k2 := 38) rfl dX8_writesPart_88 ?_
    refine lv_iload_n hx hb dX8_writesPart_91 rfl (lv_at hl 4 rfl) ?_
    refine lv_iload hx hb dX8_writesPart_92 (lv_at hl 0 rfl) ?_
    refine x_addN hx hb dX8_writesPart_94 ?_
    refine x_ald C h (hM 38 (by decide)) (n := 1120) rfl (bs + a) (by omega) (by decide) rfl dX8_writesPart_95 ?_
    refine x_topi (y := ga st 38 (bs + a)) (by rw [Eu1]; rfl) ?_
    refine x_topi (y := nI t1) (by rw [c72] at ht; exact ht) ?_
    refine pf_X8_134 C h (hM 30 (by decide)) rfl dX8_writesPart_96 (fun H locs u3 eu3 h => ?_)
    rw [Eu1, ww_9] at eu3
    refine lv_goto (tgt := 164) hx hb dX8_writesPart_99 (by decide) ?_
    exact x_vret C hr hlocks h eu3 dX8_writesPart_164
  · refine lv_aload_n hx hb dX8_writesPart_75 rfl (lv_at hl 2 rfl) ?_
    refine gf_X8_22 C h (hM 30 (by decide)) rfl (k2 := 37) rfl dX8_writesPart_76 ?_
    refine lv_iload_n hx hb dX8_writesPart_79 rfl (lv_at hl 4 rfl) ?_
    refine lv_iload hx hb dX8_writesPart_80 (lv_at hl 0 rfl) ?_
    refine x_addN hx hb dX8_writesPart_82 ?_
    refine x_ald C h (hM 37 (by decide)) (n := 1120) rfl (bs + a) (by omega) (by decide) rfl dX8_writesPart_83 ?_
    refine x_topi (y := ga st 37 (bs + a)) (by rw [Eu1]; rfl) ?_
    refine x_topi (y := nI t1) (by rw [c72] at ht; exact ht) ?_
    refine lv_goto (tgt := 96) hx hb dX8_writesPart_84 (by decide) ?_
    refine pf_X8_134 C h (hM 30 (by decide)) rfl dX8_writesPart_96 (fun H locs u4 eu4 h => ?_)
    rw [Eu1, ww_9] at eu4
    refine lv_goto (tgt := 164) hx hb dX8_writesPart_99 (by decide) ?_
    exact x_vret C hr hlocks h eu4 dX8_writesPart_164

set_option maxHeartbeats 4000000 in
set_option maxRecDepth 100000 in
theorem c_X8_writesPartF (l : Launch) (D : va_G) (cy : Nat → ClassId) (ad : Nat → Nat) (Ls : List Nat) (st : XS) (hM : ∀ k, k ∈ LsM → k ∈ Ls) (b n : Nat) (hb30 : b < 30) (hn6 : n ≤ 6) (hmany : ga st 61 b = nI n) (o : Option Nat) (ho : ∀ j, o = some j → j < 6) (us : Nat → Option Nat) (hus : ∀ k, k < 6 → (∀ i, us k = some i → i < 60) ∧ ga st 67 (6 * b + k) = oI (us k)) (bs : Nat) (hbs : bs + 160 ≤ 960) (a : Nat) (ha : a < 158) (v0 : Int64) (lo : Int32) (x9 : Int32 × Int32) (wn : Int32) (hwn : gi st 48 30 = wn) (h42 : ¬ wRo st 35 bs (a + 1) = nI 42) (h63 : ¬ wRo st 35 bs (a + 1) = nI 63) (hok : okN o (wRo st 35 bs (a + 1))) (q9 : Nat) (hq9 : q9 < 2 ^ 31) (hqn : mnmS st b n us o (wRo st 35 bs (a + 1)) = nI q9) (wd : Int32) (t1 : Nat) (hw : (wRo st 35 bs (a + 2) = nI 125 ∧ t1 = a + 3 ∧ wd = nI 0) ∨ (¬ wRo st 35 bs (a + 2) = nI 125 ∧ t1 = a + 4 ∧ wd = wRo st 35 bs (a + 2) - nI 48)) : xMv l yX8_writesPart cX8_writesPart 6 5 D cy ad Ls (wwS st (nI a, v0, oI o, lo, x9.1, x9.2)) [.ref (ad 30), .int (nI b), .int (nI bs)] (fun u => u = wwS st (nI t1, v0, oI o, lo, (wPuts wn x9 (numT q9 wd.toNatClampNeg)).1, (wPuts wn x9 (numT q9 wd.toNatClampNeg)).2)) := by
  intro sz
  refine x_of sz (by decide +kernel) (Nat.le_of_ble_eq_true rfl) ?_
  intro p e s m args below meth c ls hx hb hr hlocks C hsz h hl
  have hl : lv_has ls 6 [(0, .ref (ad 30)), (1, .int (nI b)), (2, .int (nI bs))] := hl
  obtain ⟨H, eH⟩ : ∃ z, z = s.heap := ⟨_, rfl⟩
  obtain ⟨locs, eL⟩ : ∃ z : List Loc, z = [] := ⟨_, rfl⟩
  rw [← eH, ← eL] at h
  rw [← eH, ← eL]
  clear eH eL
  obtain ⟨v, hv⟩ : ∃ v, v = wwS st (nI a, v0, oI o, lo, x9.1, x9.2) := ⟨_, rfl⟩
  rw [← hv] at h
  rcases hw with ⟨hw1, hw2, hw3⟩ | ⟨hw1, hw2, hw3⟩
  · refine lv_aload_n hx hb dX8_writesPart_0 rfl (lv_at hl 0 rfl) ?_
    refine gf_X8_16 C h (hM 30 (by decide)) rfl (k2 := 35) rfl dX8_writesPart_1 ?_
    refine lv_iload_n hx hb dX8_writesPart_4 rfl (lv_at hl 2 rfl) ?_
    refine lv_aload_n hx hb dX8_writesPart_5 rfl (lv_at hl 0 rfl) ?_
    refine gf_X8_134 C h (hM 30 (by decide)) rfl dX8_writesPart_6 ?_
    refine x_topi (y := nI a) (by rw [hv]; exact gi_ww9) ?_
    refine x_addN hx hb dX8_writesPart_9 ?_
    refine lv_iconst (v := nI 1) hx hb dX8_writesPart_10 (by decide) ?_
    refine x_addN hx hb dX8_writesPart_11 ?_
    refine x_ald C h (hM 35 (by decide)) (n := 960) rfl ((bs + a) + 1) (by omega) (by decide) rfl dX8_writesPart_12 ?_
    refine x_topi (y := ga st 35 ((bs + a) + 1)) (by rw [hv]; rfl) ?_
    refine x_topi (y := wRo st 35 bs (a + 1)) rfl ?_
    refine lv_istore_n (lv' := [(3, .int (wRo st 35 bs (a + 1))), (0, .ref (ad 30)), (1, .int (nI b)), (2, .int (nI bs))]) hx hb dX8_writesPart_13 rfl hl (by decide) rfl (fun ls hl => ?_)
    refine lv_aload_n hx hb dX8_writesPart_14 rfl (lv_at hl 1 rfl) ?_
    refine gf_X8_134 C h (hM 30 (by decide)) rfl dX8_writesPart_15 ?_
    refine x_topi (y := nI a) (by rw [hv]; exact gi_ww9) ?_
    refine lv_istore (lv' := [(4, .int (nI a)), (3, .int (wRo st 35 bs (a + 1))), (0, .ref (ad 30)), (1, .int (nI b)), (2, .int (nI bs))]) hx hb dX8_writesPart_18 hl (by decide) rfl (fun ls hl => ?_)
    refine lv_iload_n hx hb dX8_writesPart_20 rfl (lv_at hl 1 rfl) ?_
    refine lv_bipush (v := nI 42) hx hb dX8_writesPart_21 (by decide) ?_
    refine lv_icmp_ne (tgt := 55) hx hb dX8_writesPart_23 (by decide) (fun _ => ?_) (fun q9 => absurd q9 h42)
    refine lv_iload_n hx hb dX8_writesPart_55 rfl (lv_at hl 1 rfl) ?_
    refine lv_bipush (v := nI 63) hx hb dX8_writesPart_56 (by decide) ?_
    refine lv_icmp_ne (tgt := 102) hx hb dX8_writesPart_58 (by decide) (fun _ => ?_) (fun q9 => absurd q9 h63)
    refine lv_aload_n hx hb dX8_writesPart_102 rfl (lv_at hl 2 rfl) ?_
    refine gf_X8_16 C h (hM 30 (by decide)) rfl (k2 := 35) rfl dX8_writesPart_103 ?_
    refine lv_iload_n hx hb dX8_writesPart_106 rfl (lv_at hl 4 rfl) ?_
    refine lv_aload_n hx hb dX8_writesPart_107 rfl (lv_at hl 2 rfl) ?_
    refine gf_X8_134 C h (hM 30 (by decide)) rfl dX8_writesPart_108 ?_
    refine x_topi (y := nI a) (by rw [hv]; exact gi_ww9) ?_
    refine x_addN hx hb dX8_writesPart_111 ?_
    refine lv_iconst (v := nI 2) hx hb dX8_writesPart_112 (by decide) ?_
    refine x_addN hx hb dX8_writesPart_113 ?_
    refine x_ald C h (hM 35 (by decide)) (n := 960) rfl ((bs + a) + 2) (by omega) (by decide) rfl dX8_writesPart_114 ?_
    refine x_topi (y := ga st 35 ((bs + a) + 2)) (by rw [hv]; rfl) ?_
    refine x_topi (y := wRo st 35 bs (a + 2)) rfl ?_
    refine lv_istore (lv' := [(5, .int (wRo st 35 bs (a + 2))), (4, .int (nI a)), (3, .int (wRo st 35 bs (a + 1))), (0, .ref (ad 30)), (1, .int (nI b)), (2, .int (nI bs))]) hx hb dX8_writesPart_115 hl (by decide) rfl (fun ls hl => ?_)
    refine lv_aload_n hx hb dX8_writesPart_117 rfl (lv_at hl 3 rfl) ?_
    refine lv_aload_n hx hb dX8_writesPart_118 rfl (lv_at hl 3 rfl) ?_
    refine lv_iload_n hx hb dX8_writesPart_119 rfl (lv_at hl 4 rfl) ?_
    refine lv_iload_n hx hb dX8_writesPart_120 rfl (lv_at hl 2 rfl) ?_
    refine cl_X8_257 C h (hM 30 (by decide)) rfl (c_X8_nameOf l D cy ad Ls v hM b n hb30 hn6 (by rw [hv]; exact hmany) o ho (by rw [hv]; exact gi_ww45) us (by rw [hv]; exact hus) (wRo st 35 bs (a + 1)) hok) (x_room (by omega)) ⟨Nat.zero_le _, Nat.zero_le _⟩ hl.1 (Nat.le_of_ble_eq_true rfl) dX8_writesPart_121 (fun r2 u1 H locs hp h => ?_)
    obtain ⟨er2, eu1⟩ := hp; rw [eu1] at h; clear eu1 u1; refine x_topi er2 ?_; clear er2 r2
    refine x_topi (y := mnmS st b n us o (wRo st 35 bs (a + 1))) (by rw [hv]; exact mnmS_K (st := st) (u := wwS st (nI a, v0, oI o, lo, x9.1, x9.2)) (fun _ => rfl) _ _ _ _ _) ?_
    refine x_topi (y := nI q9) hqn ?_
    refine lv_iload hx hb dX8_writesPart_124 (lv_at hl 0 rfl) ?_
    refine lv_bipush (v := nI 125) hx hb dX8_writesPart_126 (by decide) ?_
    refine lv_icmp_ne (tgt := 135) hx hb dX8_writesPart_128 (by decide) (fun q9 => absurd hw1 q9) (fun _ => ?_)
    refine lv_iconst (v := nI 0) hx hb dX8_writesPart_131 (by decide) ?_
    refine lv_goto (tgt := 140) hx hb dX8_writesPart_132 (by decide) ?_
    rw [hv, ww_m] at h
    refine cl_X8_270 C h (hM 30 (by decide)) rfl (c_X8_putsNumber l D cy ad Ls (wwS st (nI a, v0, oI o, lo, x9.1, x9.2)) hM wn (by rw [gi_wwo (by decide)]; exact hwn) (x9.1, x9.2) q9 hq9 (nI 0)) (x_room (by omega)) ⟨Nat.zero_le _, Nat.zero_le _⟩ hl.1 (Nat.le_of_ble_eq_true rfl) dX8_writesPart_140 (fun u3 H locs hp h => ?_)
    have Eu3 := hp; clear hp; rw [ww_mw] at Eu3
    refine lv_aload_n hx hb dX8_writesPart_143 rfl (lv_at hl 3 rfl) ?_
    refine lv_dup hx hb dX8_writesPart_144 rfl ?_
    refine gf_X8_134 C h (hM 30 (by decide)) rfl dX8_writesPart_145 ?_
    refine x_topi (y := nI a) (by rw [Eu3]; exact gi_ww9) ?_
    refine lv_iload hx hb dX8_writesPart_148 (lv_at hl 0 rfl) ?_
    refine lv_bipush (v := nI 125) hx hb dX8_writesPart_150 (by decide) ?_
    refine lv_icmp_ne (tgt := 159) hx hb dX8_writesPart_152 (by decide) (fun q9 => absurd hw1 q9) (fun _ => ?_)
    refine lv_iconst (v := nI 3) hx hb dX8_writesPart_155 (by decide) ?_
    refine lv_goto (tgt := 160) hx hb dX8_writesPart_156 (by decide) ?_
    refine x_addN hx hb dX8_writesPart_160 ?_
    refine pf_X8_134 C h (hM 30 (by decide)) rfl dX8_writesPart_161 (fun H locs u5 eu5 h => ?_)
    rw [Eu3, ww_9] at eu5
    exact x_vret C hr hlocks h (by rw [hw2, hw3]; exact eu5) dX8_writesPart_164
  · refine lv_aload_n hx hb dX8_writesPart_0 rfl (lv_at hl 0 rfl) ?_
    refine gf_X8_16 C h (hM 30 (by decide)) rfl (k2 := 35) rfl dX8_writesPart_1 ?_
    refine lv_iload_n hx hb dX8_writesPart_4 rfl (lv_at hl 2 rfl) ?_
    refine lv_aload_n hx hb dX8_writesPart_5 rfl (lv_at hl 0 rfl) ?_
    refine gf_X8_134 C h (hM 30 (by decide)) rfl dX8_writesPart_6 ?_
    refine x_topi (y := nI a) (by rw [hv]; exact gi_ww9) ?_
    refine x_addN hx hb dX8_writesPart_9 ?_
    refine lv_iconst (v := nI 1) hx hb dX8_writesPart_10 (by decide) ?_
    refine x_addN hx hb dX8_writesPart_11 ?_
    refine x_ald C h (hM 35 (by decide)) (n := 960) rfl ((bs + a) + 1) (by omega) (by decide) rfl dX8_writesPart_12 ?_
    refine x_topi (y := ga st 35 ((bs + a) + 1)) (by rw [hv]; rfl) ?_
    refine x_topi (y := wRo st 35 bs (a + 1)) rfl ?_
    refine lv_istore_n (lv' := [(3, .int (wRo st 35 bs (a + 1))), (0, .ref (ad 30)), (1, .int (nI b)), (2, .int (nI bs))]) hx hb dX8_writesPart_13 rfl hl (by decide) rfl (fun ls hl => ?_)
    refine lv_aload_n hx hb dX8_writesPart_14 rfl (lv_at hl 1 rfl) ?_
    refine gf_X8_134 C h (hM 30 (by decide)) rfl dX8_writesPart_15 ?_
    refine x_topi (y := nI a) (by rw [hv]; exact gi_ww9) ?_
    refine lv_istore (lv' := [(4, .int (nI a)), (3, .int (wRo st 35 bs (a + 1))), (0, .ref (ad 30)), (1, .int (nI b)), (2, .int (nI bs))]) hx hb dX8_writesPart_18 hl (by decide) rfl (fun ls hl => ?_)
    refine lv_iload_n hx hb dX8_writesPart_20 rfl (lv_at hl 1 rfl) ?_
    refine lv_bipush (v := nI 42) hx hb dX8_writesPart_21 (by decide) ?_
    refine lv_icmp_ne (tgt := 55) hx hb dX8_writesPart_23 (by decide) (fun _ => ?_) (fun q9 => absurd q9 h42)
    refine lv_iload_n hx hb dX8_writesPart_55 rfl (lv_at hl 1 rfl) ?_
    refine lv_bipush (v := nI 63) hx hb dX8_writesPart_56 (by decide) ?_
    refine lv_icmp_ne (tgt := 102) hx hb dX8_writesPart_58 (by decide) (fun _ => ?_) (fun q9 => absurd q9 h63)
    refine lv_aload_n hx hb dX8_writesPart_102 rfl (lv_at hl 2 rfl) ?_
    refine gf_X8_16 C h (hM 30 (by decide)) rfl (k2 := 35) rfl dX8_writesPart_103 ?_
    refine lv_iload_n hx hb dX8_writesPart_106 rfl (lv_at hl 4 rfl) ?_
    refine lv_aload_n hx hb dX8_writesPart_107 rfl (lv_at hl 2 rfl) ?_
    refine gf_X8_134 C h (hM 30 (by decide)) rfl dX8_writesPart_108 ?_
    refine x_topi (y := nI a) (by rw [hv]; exact gi_ww9) ?_
    refine x_addN hx hb dX8_writesPart_111 ?_
    refine lv_iconst (v := nI 2) hx hb dX8_writesPart_112 (by decide) ?_
    refine x_addN hx hb dX8_writesPart_113 ?_
    refine x_ald C h (hM 35 (by decide)) (n := 960) rfl ((bs + a) + 2) (by omega) (by decide) rfl dX8_writesPart_114 ?_
    refine x_topi (y := ga st 35 ((bs + a) + 2)) (by rw [hv]; rfl) ?_
    refine x_topi (y := wRo st 35 bs (a + 2)) rfl ?_
    refine lv_istore (lv' := [(5, .int (wRo st 35 bs (a + 2))), (4, .int (nI a)), (3, .int (wRo st 35 bs (a + 1))), (0, .ref (ad 30)), (1, .int (nI b)), (2, .int (nI bs))]) hx hb dX8_writesPart_115 hl (by decide) rfl (fun ls hl => ?_)
    refine lv_aload_n hx hb dX8_writesPart_117 rfl (lv_at hl 3 rfl) ?_
    refine lv_aload_n hx hb dX8_writesPart_118 rfl (lv_at hl 3 rfl) ?_
    refine lv_iload_n hx hb dX8_writesPart_119 rfl (lv_at hl 4 rfl) ?_
    refine lv_iload_n hx hb dX8_writesPart_120 rfl (lv_at hl 2 rfl) ?_
    refine cl_X8_257 C h (hM 30 (by decide)) rfl (c_X8_nameOf l D cy ad Ls v hM b n hb30 hn6 (by rw [hv]; exact hmany) o ho (by rw [hv]; exact gi_ww45) us (by rw [hv]; exact hus) (wRo st 35 bs (a + 1)) hok) (x_room (by omega)) ⟨Nat.zero_le _, Nat.zero_le _⟩ hl.1 (Nat.le_of_ble_eq_true rfl) dX8_writesPart_121 (fun r7 u6 H locs hp h => ?_)
    obtain ⟨er7, eu6⟩ := hp; rw [eu6] at h; clear eu6 u6; refine x_topi er7 ?_; clear er7 r7
    refine x_topi (y := mnmS st b n us o (wRo st 35 bs (a + 1))) (by rw [hv]; exact mnmS_K (st := st) (u := wwS st (nI a, v0, oI o, lo, x9.1, x9.2)) (fun _ => rfl) _ _ _ _ _) ?_
    refine x_topi (y := nI q9) hqn ?_
    refine lv_iload hx hb dX8_writesPart_124 (lv_at hl 0 rfl) ?_
    refine lv_bipush (v := nI 125) hx hb dX8_writesPart_126 (by decide) ?_
    refine lv_icmp_ne (tgt := 135) hx hb dX8_writesPart_128 (by decide) (fun _ => ?_) (fun q9 => absurd q9 hw1)
    refine lv_iload hx hb dX8_writesPart_135 (lv_at hl 0 rfl) ?_
    refine lv_bipush (v := nI 48) hx hb dX8_writesPart_137 (by decide) ?_
    refine lv_isub hx hb dX8_writesPart_139 ?_
    rw [hv, ww_m] at h
    refine cl_X8_270 C h (hM 30 (by decide)) rfl (c_X8_putsNumber l D cy ad Ls (wwS st (nI a, v0, oI o, lo, x9.1, x9.2)) hM wn (by rw [gi_wwo (by decide)]; exact hwn) (x9.1, x9.2) q9 hq9 ((wRo st 35 bs (a + 2)) - (nI 48))) (x_room (by omega)) ⟨Nat.zero_le _, Nat.zero_le _⟩ hl.1 (Nat.le_of_ble_eq_true rfl) dX8_writesPart_140 (fun u8 H locs hp h => ?_)
    have Eu8 := hp; clear hp; rw [ww_mw] at Eu8
    refine lv_aload_n hx hb dX8_writesPart_143 rfl (lv_at hl 3 rfl) ?_
    refine lv_dup hx hb dX8_writesPart_144 rfl ?_
    refine gf_X8_134 C h (hM 30 (by decide)) rfl dX8_writesPart_145 ?_
    refine x_topi (y := nI a) (by rw [Eu8]; exact gi_ww9) ?_
    refine lv_iload hx hb dX8_writesPart_148 (lv_at hl 0 rfl) ?_
    refine lv_bipush (v := nI 125) hx hb dX8_writesPart_150 (by decide) ?_
    refine lv_icmp_ne (tgt := 159) hx hb dX8_writesPart_152 (by decide) (fun _ => ?_) (fun q9 => absurd q9 hw1)
    refine lv_iconst (v := nI 4) hx hb dX8_writesPart_159 (by decide) ?_
    refine x_addN hx hb dX8_writesPart_160 ?_
    refine pf_X8_134 C h (hM 30 (by decide)) rfl dX8_writesPart_161 (fun H locs u10 eu10 h => ?_)
    rw [Eu8, ww_9] at eu10
    exact x_vret C hr hlocks h (by rw [hw2, hw3]; exact eu10) dX8_writesPart_164

set_option maxHeartbeats 4000000 in
set_option maxRecDepth 100000 in
theorem c_X8_writes (l : Launch) (D : va_G) (cy : Nat → ClassId) (ad : Nat → Nat) (Ls : List Nat) (st : XS) (hM : ∀ k, k ∈ LsM → k ∈ Ls) (b n : Nat) (hb30 : b < 30) (hn6 : n ≤ 6) (hmany : ga st 61 b = nI n) (us : Nat → Option Nat) (hus : ∀ k, k < 6 → (∀ i, us k = some i → i < 60) ∧ ga st 67 (6 * b + k) = oI (us k)) (t9 : Nat) (ht6 : t9 < 6) (sz9 : Nat) (hsz9l : sz9 ≤ 160) (hsz9 : ga st 34 t9 = nI sz9) (wn : Int32) (hwn : gi st 48 30 = wn) (A9 : Int32) (v0 : Int64) (L9 lo0 w0 f0 : Int32) (N9 : Nat) (x1 : Int32 × Int32) (o1 : Option Nat) (lo1 : Int32) (hrun : WRun (wRo st 35 (160 * t9)) (wRo st 36 (160 * t9)) (wRo st 37 (160 * t9)) (wRo st 38 (160 * t9)) (mnmS st b n us) n wn sz9 N9 (0, (nI 0, nI 32), none, lo0) (sz9, x1, o1, lo1)) : xMv l yX8_writes cX8_writes 6 6 D cy ad Ls (wwS st (A9, v0, L9, lo0, w0, f0)) [.ref (ad 30), .int (nI b), .int (nI t9)] (fun u => ∃ v1, u = wwS st (nI sz9, v1, oI o1, lo1, x1.1, x1.2)) := by
  intro sz
  refine x_of sz (by decide +kernel) (Nat.le_of_ble_eq_true rfl) ?_
  intro p e s m args below meth c ls hx hb hr hlocks C hsz h hl
  have hl : lv_has ls 6 [(0, .ref (ad 30)), (1, .int (nI b)), (2, .int (nI t9))] := hl
  obtain ⟨H, eH⟩ : ∃ z, z = s.heap := ⟨_, rfl⟩
  obtain ⟨locs, eL⟩ : ∃ z : List Loc, z = [] := ⟨_, rfl⟩
  rw [← eH, ← eL] at h
  rw [← eH, ← eL]
  clear eH eL
  obtain ⟨v, hv⟩ : ∃ v, v = wwS st (A9, v0, L9, lo0, w0, f0) := ⟨_, rfl⟩
  rw [← hv] at h
  refine lv_sipush (v := nI 160) hx hb dX8_writes_0 (by decide) ?_
  refine lv_iload_n hx hb dX8_writes_3 rfl (lv_at hl 2 rfl) ?_
  refine x_mulN hx hb dX8_writes_4 ?_
  refine lv_istore_n (lv' := [(3, .int (nI (160 * t9))), (0, .ref (ad 30)), (1, .int (nI b)), (2, .int (nI t9))]) hx hb dX8_writes_5 rfl hl (by decide) rfl (fun ls hl => ?_)
  refine lv_aload_n hx hb dX8_writes_6 rfl (lv_at hl 1 rfl) ?_
  refine lv_iconst (v := nI 0) hx hb dX8_writes_7 (by decide) ?_
  refine pf_X8_237 C h (hM 30 (by decide)) rfl dX8_writes_8 (fun H locs u1 eu1 h => ?_)
  rw [hv, ww_47] at eu1
  refine lv_aload_n hx hb dX8_writes_11 rfl (lv_at hl 1 rfl) ?_
  refine lv_bipush (v := nI 32) hx hb dX8_writes_12 (by decide) ?_
  refine pf_X8_243 C h (hM 30 (by decide)) rfl dX8_writes_14 (fun H locs u2 eu2 h => ?_)
  rw [eu1, ww_49] at eu2
  refine lv_aload_n hx hb dX8_writes_17 rfl (lv_at hl 1 rfl) ?_
  refine lv_iconst (v := (-1)) hx hb dX8_writes_18 (by decide) ?_
  refine pf_X8_234 C h (hM 30 (by decide)) rfl dX8_writes_19 (fun H locs u3 eu3 h => ?_)
  rw [eu2, ww_45] at eu3
  refine lv_aload_n hx hb dX8_writes_22 rfl (lv_at hl 1 rfl) ?_
  refine lv_iconst (v := nI 0) hx hb dX8_writes_23 (by decide) ?_
  refine pf_X8_134 C h (hM 30 (by decide)) rfl dX8_writes_24 (fun H locs u4 eu4 h => ?_)
  rw [eu3, ww_9] at eu4
  have L27 : ∀ (N27 : Nat) (v9 : XS) (a9 : Nat) (x9 : Int32 × Int32) (o9 : Option Nat) (lo9 : Int32) (vv : Int64) (n9 : Nat) (ha9 : a9 ≤ 160) (ho9 : ∀ j, o9 = some j → j < 6) (hrun : WRun (wRo st 35 (160 * t9)) (wRo st 36 (160 * t9)) (wRo st 37 (160 * t9)) (wRo st 38 (160 * t9)) (mnmS st b n us) n wn sz9 n9 (a9, x9, o9, lo9) (sz9, x1, o1, lo1)) (hv9 : v9 = wwS st (nI a9, vv, oI o9, lo9, x9.1, x9.2)) (hN : n9 < N27) (H : Heap) (locs : List Loc) (ls : Array Slot), xH D cy ad Ls (XA ad Ls sz) s v9 H locs → lv_has ls 6 [(0, .ref (ad 30)), (1, .int (nI b)), (2, .int (nI t9)), (3, .int (nI (160 * t9)))] → W p l e (xR 6) s m args below meth c H locs 0 0 (MQ below (va_Qv (fun u => ∃ v1, u = wwS st (nI sz9, v1, oI o1, lo1, x1.1, x1.2)) (fun u => xPost D cy ad Ls (XA ad Ls sz) u) (XA ad Ls sz)) args s 0 0 (XA ad Ls sz)) (F0 m 27 ls []) := by
    intro N27
    induction N27 with
    | zero => intro v9 a9 x9 o9 lo9 vv n9 ha9 ho9 hrun hv9 hN; omega
    | succ N27 ih27 =>
      intro v9 a9 x9 o9 lo9 vv n9 ha9 ho9 hrun hv9 hN H locs ls h hl
      refine lv_aload_n hx hb dX8_writes_27 rfl (lv_at hl 0 rfl) ?_
      refine gf_X8_134 C h (hM 30 (by decide)) rfl dX8_writes_28 ?_
      refine x_topi (y := nI a9) (by rw [hv9]; exact gi_ww9) ?_
      refine lv_aload_n hx hb dX8_writes_31 rfl (lv_at hl 0 rfl) ?_
      refine gf_X8_13 C h (hM 30 (by decide)) rfl (k2 := 34) rfl dX8_writes_32 ?_
      refine lv_iload_n hx hb dX8_writes_35 rfl (lv_at hl 2 rfl) ?_
      refine x_ald C h (hM 34 (by decide)) (n := 6) rfl t9 (by omega) (by decide) rfl dX8_writes_36 ?_
      refine x_topi (y := ga st 34 t9) (by rw [hv9]; rfl) ?_
      refine x_topi (y := nI sz9) hsz9 ?_
      refine x_icmpN_ge (tgt := 210) hx hb dX8_writes_37 (by decide) (by omega) (by omega) (fun c37 => ?_) (fun c37 => ?_)
      · have hend : (a9, x9, o9, lo9) = (sz9, x1, o1, lo1) := by rcases n9 with _ | n8; exact hrun; obtain ⟨_, q1, _⟩ := hrun; exact absurd q1 (Nat.not_lt.mpr c37)
        exact x_vret C hr hlocks h ⟨_, by cases hend; exact hv9⟩ dX8_writes_210
      · obtain ⟨n8, rfl⟩ : ∃ n8, n9 = n8 + 1 := by rcases n9 with _ | n8; exact absurd (congrArg Prod.fst hrun) (Nat.ne_of_lt c37); exact ⟨n8, rfl⟩
        obtain ⟨⟨t1, tx, to, tl⟩, _, ⟨h157, h158, ht160, hst⟩, hrun⟩ := hrun
        change a9 < 160 at h157; change _ → a9 < 158 at h158; change t1 ≤ 160 at ht160
        rcases hst with ⟨h1, h2, h3, h4, h5⟩ | ⟨h1, h2, ⟨c1, rr1, c2, rr2, h3, h4, h5, h6⟩, h7⟩ | ⟨h1, h2, h3, h4, j8, wd, h5, h6, h7, h8⟩ | ⟨h1, h2, j8, h3, h4, h5, h6⟩ | ⟨h1, h2, j8, h3, h4, h5, h6⟩ | ⟨h1, h2, h3, h4⟩ | ⟨h1, h2, h3⟩ | ⟨h1, h2, h3⟩
        · refine lv_aload_n hx hb dX8_writes_40 rfl (lv_at hl 0 rfl) ?_
          refine gf_X8_16 C h (hM 30 (by decide)) rfl (k2 := 35) rfl dX8_writes_41 ?_
          refine lv_iload_n hx hb dX8_writes_44 rfl (lv_at hl 3 rfl) ?_
          refine lv_aload_n hx hb dX8_writes_45 rfl (lv_at hl 0 rfl) ?_
          refine gf_X8_134 C h (hM 30 (by decide)) rfl dX8_writes_46 ?_
          refine x_topi (y := nI a9) (by rw [hv9]; exact gi_ww9) ?_
          refine x_addN hx hb dX8_writes_49 ?_
          refine x_ald C h (hM 35 (by decide)) (n := 960) rfl ((160 * t9) + a9) (by omega) (by decide) rfl dX8_writes_50 ?_
          refine x_topi (y := ga st 35 ((160 * t9) + a9)) (by rw [hv9]; rfl) ?_
          refine x_topi (y := wRo st 35 (160 * t9) a9) rfl ?_
          refine lv_istore (lv' := [(4, .int (wRo st 35 (160 * t9) a9)), (0, .ref (ad 30)), (1, .int (nI b)), (2, .int (nI t9)), (3, .int (nI (160 * t9)))]) hx hb dX8_writes_51 hl (by decide) rfl (fun ls hl => ?_)
          refine lv_aload_n hx hb dX8_writes_53 rfl (lv_at hl 1 rfl) ?_
          refine gf_X8_19 C h (hM 30 (by decide)) rfl (k2 := 36) rfl dX8_writes_54 ?_
          refine lv_iload_n hx hb dX8_writes_57 rfl (lv_at hl 4 rfl) ?_
          refine lv_aload_n hx hb dX8_writes_58 rfl (lv_at hl 1 rfl) ?_
          refine gf_X8_134 C h (hM 30 (by decide)) rfl dX8_writes_59 ?_
          refine x_topi (y := nI a9) (by rw [hv9]; exact gi_ww9) ?_
          refine x_addN hx hb dX8_writes_62 ?_
          refine x_ald C h (hM 36 (by decide)) (n := 1120) rfl ((160 * t9) + a9) (by omega) (by decide) rfl dX8_writes_63 ?_
          refine x_topi (y := ga st 36 ((160 * t9) + a9)) (by rw [hv9]; rfl) ?_
          refine x_topi (y := wRo st 36 (160 * t9) a9) rfl ?_
          refine lv_istore (lv' := [(5, .int (wRo st 36 (160 * t9) a9)), (4, .int (wRo st 35 (160 * t9) a9)), (0, .ref (ad 30)), (1, .int (nI b)), (2, .int (nI t9)), (3, .int (nI (160 * t9)))]) hx hb dX8_writes_64 hl (by decide) rfl (fun ls hl => ?_)
          refine lv_iload hx hb dX8_writes_66 (lv_at hl 1 rfl) ?_
          refine lv_bipush (v := nI 123) hx hb dX8_writes_68 (by decide) ?_
          refine lv_icmp_ne (tgt := 82) hx hb dX8_writes_70 (by decide) (fun q9 => absurd h1 q9) (fun _ => ?_)
          refine lv_aload_n hx hb dX8_writes_73 rfl (lv_at hl 2 rfl) ?_
          refine lv_iload_n hx hb dX8_writes_74 rfl (lv_at hl 3 rfl) ?_
          refine lv_iload_n hx hb dX8_writes_75 rfl (lv_at hl 5 rfl) ?_
          rw [hv9] at h
          refine cl_X8_273 C h (hM 30 (by decide)) rfl (c_X8_writesPartL l D cy ad Ls st hM b n hb30 hn6 hmany o9 ho9 us hus (160 * t9) (by omega) a9 (h158 h1) vv lo9 x9 h2 t1 h4) (x_room (by omega)) ⟨Nat.zero_le _, Nat.zero_le _⟩ hl.1 (Nat.le_of_ble_eq_true rfl) dX8_writes_76 (fun u5 H locs hp h => ?_)
          have Eu5 := hp; clear hp
          refine lv_goto (tgt := 207) hx hb dX8_writes_79 (by decide) ?_
          refine lv_goto (tgt := 27) hx hb dX8_writes_207 (by decide) ?_
          rw [show ((t1, tx, to, tl) : WQ) = (t1, x9, (some 0), (nI t1)) from h5] at hrun
          exact ih27 u5 t1 x9 (some 0) (nI t1) vv n8 ht160 (fun j q9 => by cases q9; decide) hrun Eu5 (by omega) H locs ls h (lv_sub hl [2, 3, 4, 5] rfl)
        · refine lv_aload_n hx hb dX8_writes_40 rfl (lv_at hl 0 rfl) ?_
          refine gf_X8_16 C h (hM 30 (by decide)) rfl (k2 := 35) rfl dX8_writes_41 ?_
          refine lv_iload_n hx hb dX8_writes_44 rfl (lv_at hl 3 rfl) ?_
          refine lv_aload_n hx hb dX8_writes_45 rfl (lv_at hl 0 rfl) ?_
          refine gf_X8_134 C h (hM 30 (by decide)) rfl dX8_writes_46 ?_
          refine x_topi (y := nI a9) (by rw [hv9]; exact gi_ww9) ?_
          refine x_addN hx hb dX8_writes_49 ?_
          refine x_ald C h (hM 35 (by decide)) (n := 960) rfl ((160 * t9) + a9) (by omega) (by decide) rfl dX8_writes_50 ?_
          refine x_topi (y := ga st 35 ((160 * t9) + a9)) (by rw [hv9]; rfl) ?_
          refine x_topi (y := wRo st 35 (160 * t9) a9) rfl ?_
          refine lv_istore (lv' := [(4, .int (wRo st 35 (160 * t9) a9)), (0, .ref (ad 30)), (1, .int (nI b)), (2, .int (nI t9)), (3, .int (nI (160 * t9)))]) hx hb dX8_writes_51 hl (by decide) rfl (fun ls hl => ?_)
          refine lv_aload_n hx hb dX8_writes_53 rfl (lv_at hl 1 rfl) ?_
          refine gf_X8_19 C h (hM 30 (by decide)) rfl (k2 := 36) rfl dX8_writes_54 ?_
          refine lv_iload_n hx hb dX8_writes_57 rfl (lv_at hl 4 rfl) ?_
          refine lv_aload_n hx hb dX8_writes_58 rfl (lv_at hl 1 rfl) ?_
          refine gf_X8_134 C h (hM 30 (by decide)) rfl dX8_writes_59 ?_
          refine x_topi (y := nI a9) (by rw [hv9]; exact gi_ww9) ?_
          refine x_addN hx hb dX8_writes_62 ?_
          refine x_ald C h (hM 36 (by decide)) (n := 1120) rfl ((160 * t9) + a9) (by omega) (by decide) rfl dX8_writes_63 ?_
          refine x_topi (y := ga st 36 ((160 * t9) + a9)) (by rw [hv9]; rfl) ?_
          refine x_topi (y := wRo st 36 (160 * t9) a9) rfl ?_
          refine lv_istore (lv' := [(5, .int (wRo st 36 (160 * t9) a9)), (4, .int (wRo st 35 (160 * t9) a9)), (0, .ref (ad 30)), (1, .int (nI b)), (2, .int (nI t9)), (3, .int (nI (160 * t9)))]) hx hb dX8_writes_64 hl (by decide) rfl (fun ls hl => ?_)
          refine lv_iload hx hb dX8_writes_66 (lv_at hl 1 rfl) ?_
          refine lv_bipush (v := nI 123) hx hb dX8_writes_68 (by decide) ?_
          refine lv_icmp_ne (tgt := 82) hx hb dX8_writes_70 (by decide) (fun q9 => absurd h1 q9) (fun _ => ?_)
          refine lv_aload_n hx hb dX8_writes_73 rfl (lv_at hl 2 rfl) ?_
          refine lv_iload_n hx hb dX8_writes_74 rfl (lv_at hl 3 rfl) ?_
          refine lv_iload_n hx hb dX8_writes_75 rfl (lv_at hl 5 rfl) ?_
          rw [hv9] at h
          refine cl_X8_273 C h (hM 30 (by decide)) rfl (c_X8_writesPartC l D cy ad Ls st hM b n hb30 hn6 hmany o9 ho9 us hus (160 * t9) (by omega) a9 (h158 h1) vv lo9 x9 h2 c1 rr1 h3 h4 c2 rr2 h5 t1 h6) (x_room (by omega)) ⟨Nat.zero_le _, Nat.zero_le _⟩ hl.1 (Nat.le_of_ble_eq_true rfl) dX8_writes_76 (fun u7 H locs hp h => ?_)
          have Eu7 := hp; clear hp
          refine lv_goto (tgt := 207) hx hb dX8_writes_79 (by decide) ?_
          refine lv_goto (tgt := 27) hx hb dX8_writes_207 (by decide) ?_
          rw [show ((t1, tx, to, tl) : WQ) = (t1, x9, o9, lo9) from h7] at hrun
          exact ih27 u7 t1 x9 o9 lo9 rr2 n8 ht160 ho9 hrun Eu7 (by omega) H locs ls h (lv_sub hl [2, 3, 4, 5] rfl)
        · refine lv_aload_n hx hb dX8_writes_40 rfl (lv_at hl 0 rfl) ?_
          refine gf_X8_16 C h (hM 30 (by decide)) rfl (k2 := 35) rfl dX8_writes_41 ?_
          refine lv_iload_n hx hb dX8_writes_44 rfl (lv_at hl 3 rfl) ?_
          refine lv_aload_n hx hb dX8_writes_45 rfl (lv_at hl 0 rfl) ?_
          refine gf_X8_134 C h (hM 30 (by decide)) rfl dX8_writes_46 ?_
          refine x_topi (y := nI a9) (by rw [hv9]; exact gi_ww9) ?_
          refine x_addN hx hb dX8_writes_49 ?_
          refine x_ald C h (hM 35 (by decide)) (n := 960) rfl ((160 * t9) + a9) (by omega) (by decide) rfl dX8_writes_50 ?_
          refine x_topi (y := ga st 35 ((160 * t9) + a9)) (by rw [hv9]; rfl) ?_
          refine x_topi (y := wRo st 35 (160 * t9) a9) rfl ?_
          refine lv_istore (lv' := [(4, .int (wRo st 35 (160 * t9) a9)), (0, .ref (ad 30)), (1, .int (nI b)), (2, .int (nI t9)), (3, .int (nI (160 * t9)))]) hx hb dX8_writes_51 hl (by decide) rfl (fun ls hl => ?_)
          refine lv_aload_n hx hb dX8_writes_53 rfl (lv_at hl 1 rfl) ?_
          refine gf_X8_19 C h (hM 30 (by decide)) rfl (k2 := 36) rfl dX8_writes_54 ?_
          refine lv_iload_n hx hb dX8_writes_57 rfl (lv_at hl 4 rfl) ?_
          refine lv_aload_n hx hb dX8_writes_58 rfl (lv_at hl 1 rfl) ?_
          refine gf_X8_134 C h (hM 30 (by decide)) rfl dX8_writes_59 ?_
          refine x_topi (y := nI a9) (by rw [hv9]; exact gi_ww9) ?_
          refine x_addN hx hb dX8_writes_62 ?_
          refine x_ald C h (hM 36 (by decide)) (n := 1120) rfl ((160 * t9) + a9) (by omega) (by decide) rfl dX8_writes_63 ?_
          refine x_topi (y := ga st 36 ((160 * t9) + a9)) (by rw [hv9]; rfl) ?_
          refine x_topi (y := wRo st 36 (160 * t9) a9) rfl ?_
          refine lv_istore (lv' := [(5, .int (wRo st 36 (160 * t9) a9)), (4, .int (wRo st 35 (160 * t9) a9)), (0, .ref (ad 30)), (1, .int (nI b)), (2, .int (nI t9)), (3, .int (nI (160 * t9)))]) hx hb dX8_writes_64 hl (by decide) rfl (fun ls hl => ?_)
          refine lv_iload hx hb dX8_writes_66 (lv_at hl 1 rfl) ?_
          refine lv_bipush (v := nI 123) hx hb dX8_writes_68 (by decide) ?_
          refine lv_icmp_ne (tgt := 82) hx hb dX8_writes_70 (by decide) (fun q9 => absurd h1 q9) (fun _ => ?_)
          refine lv_aload_n hx hb dX8_writes_73 rfl (lv_at hl 2 rfl) ?_
          refine lv_iload_n hx hb dX8_writes_74 rfl (lv_at hl 3 rfl) ?_
          refine lv_iload_n hx hb dX8_writes_75 rfl (lv_at hl 5 rfl) ?_
          rw [hv9] at h
          refine cl_X8_273 C h (hM 30 (by decide)) rfl (c_X8_writesPartF l D cy ad Ls st hM b n hb30 hn6 hmany o9 ho9 us hus (160 * t9) (by omega) a9 (h158 h1) vv lo9 x9 wn hwn h2 h3 h4 j8 h6 h5 wd t1 h7) (x_room (by omega)) ⟨Nat.zero_le _, Nat.zero_le _⟩ hl.1 (Nat.le_of_ble_eq_true rfl) dX8_writes_76 (fun u9 H locs hp h => ?_)
          have Eu9 := hp; clear hp
          refine lv_goto (tgt := 207) hx hb dX8_writes_79 (by decide) ?_
          refine lv_goto (tgt := 27) hx hb dX8_writes_207 (by decide) ?_
          rw [show ((t1, tx, to, tl) : WQ) = (t1, (wPuts wn x9 (numT j8 wd.toNatClampNeg)), o9, lo9) from h8] at hrun
          exact ih27 u9 t1 (wPuts wn x9 (numT j8 wd.toNatClampNeg)) o9 lo9 vv n8 ht160 ho9 hrun Eu9 (by omega) H locs ls h (lv_sub hl [2, 3, 4, 5] rfl)
        · change o9 = some j8 at h3; subst h3
          replace hv9 : v9 = wwS st (nI a9, vv, nI j8, lo9, x9.1, x9.2) := hv9
          have hj6 : j8 < 6 := ho9 j8 rfl
          refine lv_aload_n hx hb dX8_writes_40 rfl (lv_at hl 0 rfl) ?_
          refine gf_X8_16 C h (hM 30 (by decide)) rfl (k2 := 35) rfl dX8_writes_41 ?_
          refine lv_iload_n hx hb dX8_writes_44 rfl (lv_at hl 3 rfl) ?_
          refine lv_aload_n hx hb dX8_writes_45 rfl (lv_at hl 0 rfl) ?_
          refine gf_X8_134 C h (hM 30 (by decide)) rfl dX8_writes_46 ?_
          refine x_topi (y := nI a9) (by rw [hv9]; exact gi_ww9) ?_
          refine x_addN hx hb dX8_writes_49 ?_
          refine x_ald C h (hM 35 (by decide)) (n := 960) rfl ((160 * t9) + a9) (by omega) (by decide) rfl dX8_writes_50 ?_
          refine x_topi (y := ga st 35 ((160 * t9) + a9)) (by rw [hv9]; rfl) ?_
          refine x_topi (y := wRo st 35 (160 * t9) a9) rfl ?_
          refine lv_istore (lv' := [(4, .int (wRo st 35 (160 * t9) a9)), (0, .ref (ad 30)), (1, .int (nI b)), (2, .int (nI t9)), (3, .int (nI (160 * t9)))]) hx hb dX8_writes_51 hl (by decide) rfl (fun ls hl => ?_)
          refine lv_aload_n hx hb dX8_writes_53 rfl (lv_at hl 1 rfl) ?_
          refine gf_X8_19 C h (hM 30 (by decide)) rfl (k2 := 36) rfl dX8_writes_54 ?_
          refine lv_iload_n hx hb dX8_writes_57 rfl (lv_at hl 4 rfl) ?_
          refine lv_aload_n hx hb dX8_writes_58 rfl (lv_at hl 1 rfl) ?_
          refine gf_X8_134 C h (hM 30 (by decide)) rfl dX8_writes_59 ?_
          refine x_topi (y := nI a9) (by rw [hv9]; exact gi_ww9) ?_
          refine x_addN hx hb dX8_writes_62 ?_
          refine x_ald C h (hM 36 (by decide)) (n := 1120) rfl ((160 * t9) + a9) (by omega) (by decide) rfl dX8_writes_63 ?_
          refine x_topi (y := ga st 36 ((160 * t9) + a9)) (by rw [hv9]; rfl) ?_
          refine x_topi (y := wRo st 36 (160 * t9) a9) rfl ?_
          refine lv_istore (lv' := [(5, .int (wRo st 36 (160 * t9) a9)), (4, .int (wRo st 35 (160 * t9) a9)), (0, .ref (ad 30)), (1, .int (nI b)), (2, .int (nI t9)), (3, .int (nI (160 * t9)))]) hx hb dX8_writes_64 hl (by decide) rfl (fun ls hl => ?_)
          refine lv_iload hx hb dX8_writes_66 (lv_at hl 1 rfl) ?_
          refine lv_bipush (v := nI 123) hx hb dX8_writes_68 (by decide) ?_
          refine lv_icmp_ne (tgt := 82) hx hb dX8_writes_70 (by decide) (fun _ => ?_) (fun q9 => absurd q9 h1)
          refine lv_iload hx hb dX8_writes_82 (lv_at hl 0 rfl) ?_
          refine lv_iconst (v := nI 1) hx hb dX8_writes_84 (by decide) ?_
          refine lv_icmp_ne (tgt := 124) hx hb dX8_writes_85 (by decide) (fun q9 => absurd h2 q9) (fun _ => ?_)
          refine lv_aload_n hx hb dX8_writes_88 rfl (lv_at hl 2 rfl) ?_
          refine gf_X8_234 C h (hM 30 (by decide)) rfl dX8_writes_89 ?_
          refine x_topi (y := nI j8) (by rw [hv9]; exact gi_ww45) ?_
          refine lv_iconst (v := nI 1) hx hb dX8_writes_92 (by decide) ?_
          refine x_addN hx hb dX8_writes_93 ?_
          refine lv_aload_n hx hb dX8_writes_94 rfl (lv_at hl 2 rfl) ?_
          refine gf_X8_71 C h (hM 30 (by decide)) rfl (k2 := 61) rfl dX8_writes_95 ?_
          refine lv_iload_n hx hb dX8_writes_98 rfl (lv_at hl 3 rfl) ?_
          refine x_ald C h (hM 61 (by decide)) (n := 30) rfl b (by omega) (by decide) rfl dX8_writes_99 ?_
          refine x_topi (y := ga st 61 b) (by rw [hv9]; rfl) ?_
          refine x_topi (y := nI n) hmany ?_
          refine x_icmpN_ge (tgt := 124) hx hb dX8_writes_100 (by decide) (by omega) (by omega) (fun q9 => absurd h4 (Nat.not_lt.mpr q9)) (fun _ => ?_)
          refine lv_aload_n hx hb dX8_writes_103 rfl (lv_at hl 2 rfl) ?_
          refine lv_dup hx hb dX8_writes_104 rfl ?_
          refine gf_X8_234 C h (hM 30 (by decide)) rfl dX8_writes_105 ?_
          refine x_topi (y := nI j8) (by rw [hv9]; exact gi_ww45) ?_
          refine lv_iconst (v := nI 1) hx hb dX8_writes_108 (by decide) ?_
          refine x_addN hx hb dX8_writes_109 ?_
          refine pf_X8_234 C h (hM 30 (by decide)) rfl dX8_writes_110 (fun H locs u11 eu11 h => ?_)
          rw [hv9, ww_45] at eu11
          refine lv_aload_n hx hb dX8_writes_113 rfl (lv_at hl 2 rfl) ?_
          refine lv_aload_n hx hb dX8_writes_114 rfl (lv_at hl 2 rfl) ?_
          refine gf_X8_264 C h (hM 30 (by decide)) rfl dX8_writes_115 ?_
          refine x_topi (y := lo9) (by rw [eu11]; exact gi_ww46) ?_
          refine x_topi (y := nI t1) h5 ?_
          refine pf_X8_134 C h (hM 30 (by decide)) rfl dX8_writes_118 (fun H locs u12 eu12 h => ?_)
          rw [eu11, ww_9] at eu12
          refine lv_goto (tgt := 207) hx hb dX8_writes_121 (by decide) ?_
          refine lv_goto (tgt := 27) hx hb dX8_writes_207 (by decide) ?_
          rw [show ((t1, tx, to, tl) : WQ) = (t1, x9, (some (j8 + 1)), lo9) from h6] at hrun
          exact ih27 u12 t1 x9 (some (j8 + 1)) lo9 vv n8 ht160 (fun j q9 => by cases q9; omega) hrun eu12 (by omega) H locs ls h (lv_sub hl [2, 3, 4, 5] rfl)
        · change o9 = some j8 at h3; subst h3
          replace hv9 : v9 = wwS st (nI a9, vv, nI j8, lo9, x9.1, x9.2) := hv9
          have hj6 : j8 < 6 := ho9 j8 rfl
          refine lv_aload_n hx hb dX8_writes_40 rfl (lv_at hl 0 rfl) ?_
          refine gf_X8_16 C h (hM 30 (by decide)) rfl (k2 := 35) rfl dX8_writes_41 ?_
          refine lv_iload_n hx hb dX8_writes_44 rfl (lv_at hl 3 rfl) ?_
          refine lv_aload_n hx hb dX8_writes_45 rfl (lv_at hl 0 rfl) ?_
          refine gf_X8_134 C h (hM 30 (by decide)) rfl dX8_writes_46 ?_
          refine x_topi (y := nI a9) (by rw [hv9]; exact gi_ww9) ?_
          refine x_addN hx hb dX8_writes_49 ?_
          refine x_ald C h (hM 35 (by decide)) (n := 960) rfl ((160 * t9) + a9) (by omega) (by decide) rfl dX8_writes_50 ?_
          refine x_topi (y := ga st 35 ((160 * t9) + a9)) (by rw [hv9]; rfl) ?_
          refine x_topi (y := wRo st 35 (160 * t9) a9) rfl ?_
          refine lv_istore (lv' := [(4, .int (wRo st 35 (160 * t9) a9)), (0, .ref (ad 30)), (1, .int (nI b)), (2, .int (nI t9)), (3, .int (nI (160 * t9)))]) hx hb dX8_writes_51 hl (by decide) rfl (fun ls hl => ?_)
          refine lv_aload_n hx hb dX8_writes_53 rfl (lv_at hl 1 rfl) ?_
          refine gf_X8_19 C h (hM 30 (by decide)) rfl (k2 := 36) rfl dX8_writes_54 ?_
          refine lv_iload_n hx hb dX8_writes_57 rfl (lv_at hl 4 rfl) ?_
          refine lv_aload_n hx hb dX8_writes_58 rfl (lv_at hl 1 rfl) ?_
          refine gf_X8_134 C h (hM 30 (by decide)) rfl dX8_writes_59 ?_
          refine x_topi (y := nI a9) (by rw [hv9]; exact gi_ww9) ?_
          refine x_addN hx hb dX8_writes_62 ?_
          refine x_ald C h (hM 36 (by decide)) (n := 1120) rfl ((160 * t9) + a9) (by omega) (by decide) rfl dX8_writes_63 ?_
          refine x_topi (y := ga st 36 ((160 * t9) + a9)) (by rw [hv9]; rfl) ?_
          refine x_topi (y := wRo st 36 (160 * t9) a9) rfl ?_
          refine lv_istore (lv' := [(5, .int (wRo st 36 (160 * t9) a9)), (4, .int (wRo st 35 (160 * t9) a9)), (0, .ref (ad 30)), (1, .int (nI b)), (2, .int (nI t9)), (3, .int (nI (160 * t9)))]) hx hb dX8_writes_64 hl (by decide) rfl (fun ls hl => ?_)
          refine lv_iload hx hb dX8_writes_66 (lv_at hl 1 rfl) ?_
          refine lv_bipush (v := nI 123) hx hb dX8_writes_68 (by decide) ?_
          refine lv_icmp_ne (tgt := 82) hx hb dX8_writes_70 (by decide) (fun _ => ?_) (fun q9 => absurd q9 h1)
          refine lv_iload hx hb dX8_writes_82 (lv_at hl 0 rfl) ?_
          refine lv_iconst (v := nI 1) hx hb dX8_writes_84 (by decide) ?_
          refine lv_icmp_ne (tgt := 124) hx hb dX8_writes_85 (by decide) (fun q9 => absurd h2 q9) (fun _ => ?_)
          refine lv_aload_n hx hb dX8_writes_88 rfl (lv_at hl 2 rfl) ?_
          refine gf_X8_234 C h (hM 30 (by decide)) rfl dX8_writes_89 ?_
          refine x_topi (y := nI j8) (by rw [hv9]; exact gi_ww45) ?_
          refine lv_iconst (v := nI 1) hx hb dX8_writes_92 (by decide) ?_
          refine x_addN hx hb dX8_writes_93 ?_
          refine lv_aload_n hx hb dX8_writes_94 rfl (lv_at hl 2 rfl) ?_
          refine gf_X8_71 C h (hM 30 (by decide)) rfl (k2 := 61) rfl dX8_writes_95 ?_
          refine lv_iload_n hx hb dX8_writes_98 rfl (lv_at hl 3 rfl) ?_
          refine x_ald C h (hM 61 (by decide)) (n := 30) rfl b (by omega) (by decide) rfl dX8_writes_99 ?_
          refine x_topi (y := ga st 61 b) (by rw [hv9]; rfl) ?_
          refine x_topi (y := nI n) hmany ?_
          refine x_icmpN_ge (tgt := 124) hx hb dX8_writes_100 (by decide) (by omega) (by omega) (fun _ => ?_) (fun q9 => absurd q9 h5)
          refine lv_iload hx hb dX8_writes_124 (lv_at hl 0 rfl) ?_
          refine lv_iconst (v := nI 1) hx hb dX8_writes_126 (by decide) ?_
          refine lv_icmp_ne (tgt := 148) hx hb dX8_writes_127 (by decide) (fun q9 => absurd h2 q9) (fun _ => ?_)
          refine lv_aload_n hx hb dX8_writes_130 rfl (lv_at hl 2 rfl) ?_
          refine lv_iconst (v := (-1)) hx hb dX8_writes_131 (by decide) ?_
          refine pf_X8_234 C h (hM 30 (by decide)) rfl dX8_writes_132 (fun H locs u13 eu13 h => ?_)
          rw [hv9, ww_45] at eu13
          refine lv_aload_n hx hb dX8_writes_135 rfl (lv_at hl 2 rfl) ?_
          refine lv_dup hx hb dX8_writes_136 rfl ?_
          refine gf_X8_134 C h (hM 30 (by decide)) rfl dX8_writes_137 ?_
          refine x_topi (y := nI a9) (by rw [eu13]; exact gi_ww9) ?_
          refine lv_iconst (v := nI 2) hx hb dX8_writes_140 (by decide) ?_
          refine x_addN hx hb dX8_writes_141 ?_
          refine pf_X8_134 C h (hM 30 (by decide)) rfl dX8_writes_142 (fun H locs u14 eu14 h => ?_)
          rw [eu13, ww_9] at eu14
          refine lv_goto (tgt := 207) hx hb dX8_writes_145 (by decide) ?_
          refine lv_goto (tgt := 27) hx hb dX8_writes_207 (by decide) ?_
          rw [show ((t1, tx, to, tl) : WQ) = ((a9 + 2), x9, none, lo9) from h6] at hrun
          exact ih27 u14 (a9 + 2) x9 none lo9 vv n8 (by have q9 := congrArg Prod.fst h6; change t1 = a9 + 2 at q9; omega) (fun j q9 => by cases q9) hrun eu14 (by omega) H locs ls h (lv_sub hl [2, 3, 4, 5] rfl)
        · refine lv_aload_n hx hb dX8_writes_40 rfl (lv_at hl 0 rfl) ?_
          refine gf_X8_16 C h (hM 30 (by decide)) rfl (k2 := 35) rfl dX8_writes_41 ?_
          refine lv_iload_n hx hb dX8_writes_44 rfl (lv_at hl 3 rfl) ?_
          refine lv_aload_n hx hb dX8_writes_45 rfl (lv_at hl 0 rfl) ?_
          refine gf_X8_134 C h (hM 30 (by decide)) rfl dX8_writes_46 ?_
          refine x_topi (y := nI a9) (by rw [hv9]; exact gi_ww9) ?_
          refine x_addN hx hb dX8_writes_49 ?_
          refine x_ald C h (hM 35 (by decide)) (n := 960) rfl ((160 * t9) + a9) (by omega) (by decide) rfl dX8_writes_50 ?_
          refine x_topi (y := ga st 35 ((160 * t9) + a9)) (by rw [hv9]; rfl) ?_
          refine x_topi (y := wRo st 35 (160 * t9) a9) rfl ?_
          refine lv_istore (lv' := [(4, .int (wRo st 35 (160 * t9) a9)), (0, .ref (ad 30)), (1, .int (nI b)), (2, .int (nI t9)), (3, .int (nI (160 * t9)))]) hx hb dX8_writes_51 hl (by decide) rfl (fun ls hl => ?_)
          refine lv_aload_n hx hb dX8_writes_53 rfl (lv_at hl 1 rfl) ?_
          refine gf_X8_19 C h (hM 30 (by decide)) rfl (k2 := 36) rfl dX8_writes_54 ?_
          refine lv_iload_n hx hb dX8_writes_57 rfl (lv_at hl 4 rfl) ?_
          refine lv_aload_n hx hb dX8_writes_58 rfl (lv_at hl 1 rfl) ?_
          refine gf_X8_134 C h (hM 30 (by decide)) rfl dX8_writes_59 ?_
          refine x_topi (y := nI a9) (by rw [hv9]; exact gi_ww9) ?_
          refine x_addN hx hb dX8_writes_62 ?_
          refine x_ald C h (hM 36 (by decide)) (n := 1120) rfl ((160 * t9) + a9) (by omega) (by decide) rfl dX8_writes_63 ?_
          refine x_topi (y := ga st 36 ((160 * t9) + a9)) (by rw [hv9]; rfl) ?_
          refine x_topi (y := wRo st 36 (160 * t9) a9) rfl ?_
          refine lv_istore (lv' := [(5, .int (wRo st 36 (160 * t9) a9)), (4, .int (wRo st 35 (160 * t9) a9)), (0, .ref (ad 30)), (1, .int (nI b)), (2, .int (nI t9)), (3, .int (nI (160 * t9)))]) hx hb dX8_writes_64 hl (by decide) rfl (fun ls hl => ?_)
          refine lv_iload hx hb dX8_writes_66 (lv_at hl 1 rfl) ?_
          refine lv_bipush (v := nI 123) hx hb dX8_writes_68 (by decide) ?_
          refine lv_icmp_ne (tgt := 82) hx hb dX8_writes_70 (by decide) (fun _ => ?_) (fun q9 => absurd q9 h1)
          refine lv_iload hx hb dX8_writes_82 (lv_at hl 0 rfl) ?_
          refine lv_iconst (v := nI 1) hx hb dX8_writes_84 (by decide) ?_
          refine lv_icmp_ne (tgt := 124) hx hb dX8_writes_85 (by decide) (fun _ => ?_) (fun q9 => absurd (h2.symm.trans q9) (by decide))
          refine lv_iload hx hb dX8_writes_124 (lv_at hl 0 rfl) ?_
          refine lv_iconst (v := nI 1) hx hb dX8_writes_126 (by decide) ?_
          refine lv_icmp_ne (tgt := 148) hx hb dX8_writes_127 (by decide) (fun _ => ?_) (fun q9 => absurd (h2.symm.trans q9) (by decide))
          refine lv_iload hx hb dX8_writes_148 (lv_at hl 0 rfl) ?_
          refine lv_iconst (v := nI 2) hx hb dX8_writes_150 (by decide) ?_
          refine lv_icmp_ne (tgt := 172) hx hb dX8_writes_151 (by decide) (fun q9 => absurd h2 q9) (fun _ => ?_)
          refine lv_aload_n hx hb dX8_writes_154 rfl (lv_at hl 2 rfl) ?_
          refine lv_aload_n hx hb dX8_writes_155 rfl (lv_at hl 2 rfl) ?_
          refine gf_X8_25 C h (hM 30 (by decide)) rfl (k2 := 38) rfl dX8_writes_156 ?_
          refine lv_iload_n hx hb dX8_writes_159 rfl (lv_at hl 5 rfl) ?_
          refine lv_aload_n hx hb dX8_writes_160 rfl (lv_at hl 2 rfl) ?_
          refine gf_X8_134 C h (hM 30 (by decide)) rfl dX8_writes_161 ?_
          refine x_topi (y := nI a9) (by rw [hv9]; exact gi_ww9) ?_
          refine x_addN hx hb dX8_writes_164 ?_
          refine x_ald C h (hM 38 (by decide)) (n := 1120) rfl ((160 * t9) + a9) (by omega) (by decide) rfl dX8_writes_165 ?_
          refine x_topi (y := ga st 38 ((160 * t9) + a9)) (by rw [hv9]; rfl) ?_
          refine x_topi (y := nI t1) h3 ?_
          refine pf_X8_134 C h (hM 30 (by decide)) rfl dX8_writes_166 (fun H locs u15 eu15 h => ?_)
          rw [hv9, ww_9] at eu15
          refine lv_goto (tgt := 207) hx hb dX8_writes_169 (by decide) ?_
          refine lv_goto (tgt := 27) hx hb dX8_writes_207 (by decide) ?_
          rw [show ((t1, tx, to, tl) : WQ) = (t1, x9, o9, lo9) from h4] at hrun
          exact ih27 u15 t1 x9 o9 lo9 vv n8 ht160 ho9 hrun eu15 (by omega) H locs ls h (lv_sub hl [2, 3, 4, 5] rfl)
        · refine lv_aload_n hx hb dX8_writes_40 rfl (lv_at hl 0 rfl) ?_
          refine gf_X8_16 C h (hM 30 (by decide)) rfl (k2 := 35) rfl dX8_writes_41 ?_
          refine lv_iload_n hx hb dX8_writes_44 rfl (lv_at hl 3 rfl) ?_
          refine lv_aload_n hx hb dX8_writes_45 rfl (lv_at hl 0 rfl) ?_
          refine gf_X8_134 C h (hM 30 (by decide)) rfl dX8_writes_46 ?_
          refine x_topi (y := nI a9) (by rw [hv9]; exact gi_ww9) ?_
          refine x_addN hx hb dX8_writes_49 ?_
          refine x_ald C h (hM 35 (by decide)) (n := 960) rfl ((160 * t9) + a9) (by omega) (by decide) rfl dX8_writes_50 ?_
          refine x_topi (y := ga st 35 ((160 * t9) + a9)) (by rw [hv9]; rfl) ?_
          refine x_topi (y := wRo st 35 (160 * t9) a9) rfl ?_
          refine lv_istore (lv' := [(4, .int (wRo st 35 (160 * t9) a9)), (0, .ref (ad 30)), (1, .int (nI b)), (2, .int (nI t9)), (3, .int (nI (160 * t9)))]) hx hb dX8_writes_51 hl (by decide) rfl (fun ls hl => ?_)
          refine lv_aload_n hx hb dX8_writes_53 rfl (lv_at hl 1 rfl) ?_
          refine gf_X8_19 C h (hM 30 (by decide)) rfl (k2 := 36) rfl dX8_writes_54 ?_
          refine lv_iload_n hx hb dX8_writes_57 rfl (lv_at hl 4 rfl) ?_
          refine lv_aload_n hx hb dX8_writes_58 rfl (lv_at hl 1 rfl) ?_
          refine gf_X8_134 C h (hM 30 (by decide)) rfl dX8_writes_59 ?_
          refine x_topi (y := nI a9) (by rw [hv9]; exact gi_ww9) ?_
          refine x_addN hx hb dX8_writes_62 ?_
          refine x_ald C h (hM 36 (by decide)) (n := 1120) rfl ((160 * t9) + a9) (by omega) (by decide) rfl dX8_writes_63 ?_
          refine x_topi (y := ga st 36 ((160 * t9) + a9)) (by rw [hv9]; rfl) ?_
          refine x_topi (y := wRo st 36 (160 * t9) a9) rfl ?_
          refine lv_istore (lv' := [(5, .int (wRo st 36 (160 * t9) a9)), (4, .int (wRo st 35 (160 * t9) a9)), (0, .ref (ad 30)), (1, .int (nI b)), (2, .int (nI t9)), (3, .int (nI (160 * t9)))]) hx hb dX8_writes_64 hl (by decide) rfl (fun ls hl => ?_)
          refine lv_iload hx hb dX8_writes_66 (lv_at hl 1 rfl) ?_
          refine lv_bipush (v := nI 123) hx hb dX8_writes_68 (by decide) ?_
          refine lv_icmp_ne (tgt := 82) hx hb dX8_writes_70 (by decide) (fun _ => ?_) (fun q9 => absurd q9 h1)
          refine lv_iload hx hb dX8_writes_82 (lv_at hl 0 rfl) ?_
          refine lv_iconst (v := nI 1) hx hb dX8_writes_84 (by decide) ?_
          refine lv_icmp_ne (tgt := 124) hx hb dX8_writes_85 (by decide) (fun _ => ?_) (fun q9 => absurd (h2.symm.trans q9) (by decide))
          refine lv_iload hx hb dX8_writes_124 (lv_at hl 0 rfl) ?_
          refine lv_iconst (v := nI 1) hx hb dX8_writes_126 (by decide) ?_
          refine lv_icmp_ne (tgt := 148) hx hb dX8_writes_127 (by decide) (fun _ => ?_) (fun q9 => absurd (h2.symm.trans q9) (by decide))
          refine lv_iload hx hb dX8_writes_148 (lv_at hl 0 rfl) ?_
          refine lv_iconst (v := nI 2) hx hb dX8_writes_150 (by decide) ?_
          refine lv_icmp_ne (tgt := 172) hx hb dX8_writes_151 (by decide) (fun _ => ?_) (fun q9 => absurd (h2.symm.trans q9) (by decide))
          refine lv_iload hx hb dX8_writes_172 (lv_at hl 0 rfl) ?_
          refine lv_iconst (v := nI 3) hx hb dX8_writes_174 (by decide) ?_
          refine lv_icmp_ne (tgt := 191) hx hb dX8_writes_175 (by decide) (fun q9 => absurd h2 q9) (fun _ => ?_)
          refine lv_aload_n hx hb dX8_writes_178 rfl (lv_at hl 2 rfl) ?_
          refine lv_dup hx hb dX8_writes_179 rfl ?_
          refine gf_X8_134 C h (hM 30 (by decide)) rfl dX8_writes_180 ?_
          refine x_topi (y := nI a9) (by rw [hv9]; exact gi_ww9) ?_
          refine lv_iconst (v := nI 1) hx hb dX8_writes_183 (by decide) ?_
          refine x_addN hx hb dX8_writes_184 ?_
          refine pf_X8_134 C h (hM 30 (by decide)) rfl dX8_writes_185 (fun H locs u16 eu16 h => ?_)
          rw [hv9, ww_9] at eu16
          refine lv_goto (tgt := 207) hx hb dX8_writes_188 (by decide) ?_
          refine lv_goto (tgt := 27) hx hb dX8_writes_207 (by decide) ?_
          rw [show ((t1, tx, to, tl) : WQ) = ((a9 + 1), x9, o9, lo9) from h3] at hrun
          exact ih27 u16 (a9 + 1) x9 o9 lo9 vv n8 (by omega) ho9 hrun eu16 (by omega) H locs ls h (lv_sub hl [2, 3, 4, 5] rfl)
        · refine lv_aload_n hx hb dX8_writes_40 rfl (lv_at hl 0 rfl) ?_
          refine gf_X8_16 C h (hM 30 (by decide)) rfl (k2 := 35) rfl dX8_writes_41 ?_
          refine lv_iload_n hx hb dX8_writes_44 rfl (lv_at hl 3 rfl) ?_
          refine lv_aload_n hx hb dX8_writes_45 rfl (lv_at hl 0 rfl) ?_
          refine gf_X8_134 C h (hM 30 (by decide)) rfl dX8_writes_46 ?_
          refine x_topi (y := nI a9) (by rw [hv9]; exact gi_ww9) ?_
          refine x_addN hx hb dX8_writes_49 ?_
          refine x_ald C h (hM 35 (by decide)) (n := 960) rfl ((160 * t9) + a9) (by omega) (by decide) rfl dX8_writes_50 ?_
          refine x_topi (y := ga st 35 ((160 * t9) + a9)) (by rw [hv9]; rfl) ?_
          refine x_topi (y := wRo st 35 (160 * t9) a9) rfl ?_
          refine lv_istore (lv' := [(4, .int (wRo st 35 (160 * t9) a9)), (0, .ref (ad 30)), (1, .int (nI b)), (2, .int (nI t9)), (3, .int (nI (160 * t9)))]) hx hb dX8_writes_51 hl (by decide) rfl (fun ls hl => ?_)
          refine lv_aload_n hx hb dX8_writes_53 rfl (lv_at hl 1 rfl) ?_
          refine gf_X8_19 C h (hM 30 (by decide)) rfl (k2 := 36) rfl dX8_writes_54 ?_
          refine lv_iload_n hx hb dX8_writes_57 rfl (lv_at hl 4 rfl) ?_
          refine lv_aload_n hx hb dX8_writes_58 rfl (lv_at hl 1 rfl) ?_
          refine gf_X8_134 C h (hM 30 (by decide)) rfl dX8_writes_59 ?_
          refine x_topi (y := nI a9) (by rw [hv9]; exact gi_ww9) ?_
          refine x_addN hx hb dX8_writes_62 ?_
          refine x_ald C h (hM 36 (by decide)) (n := 1120) rfl ((160 * t9) + a9) (by omega) (by decide) rfl dX8_writes_63 ?_
          refine x_topi (y := ga st 36 ((160 * t9) + a9)) (by rw [hv9]; rfl) ?_
          refine x_topi (y := wRo st 36 (160 * t9) a9) rfl ?_
          refine lv_istore (lv' := [(5, .int (wRo st 36 (160 * t9) a9)), (4, .int (wRo st 35 (160 * t9) a9)), (0, .ref (ad 30)), (1, .int (nI b)), (2, .int (nI t9)), (3, .int (nI (160 * t9)))]) hx hb dX8_writes_64 hl (by decide) rfl (fun ls hl => ?_)
          refine lv_iload hx hb dX8_writes_66 (lv_at hl 1 rfl) ?_
          refine lv_bipush (v := nI 123) hx hb dX8_writes_68 (by decide) ?_
          refine lv_icmp_ne (tgt := 82) hx hb dX8_writes_70 (by decide) (fun _ => ?_) (fun q9 => absurd q9 h1)
          refine lv_iload hx hb dX8_writes_82 (lv_at hl 0 rfl) ?_
          refine lv_iconst (v := nI 1) hx hb dX8_writes_84 (by decide) ?_
          refine lv_icmp_ne (tgt := 124) hx hb dX8_writes_85 (by decide) (fun _ => ?_) (fun q9 => absurd (h2.symm.trans q9) (by decide))
          refine lv_iload hx hb dX8_writes_124 (lv_at hl 0 rfl) ?_
          refine lv_iconst (v := nI 1) hx hb dX8_writes_126 (by decide) ?_
          refine lv_icmp_ne (tgt := 148) hx hb dX8_writes_127 (by decide) (fun _ => ?_) (fun q9 => absurd (h2.symm.trans q9) (by decide))
          refine lv_iload hx hb dX8_writes_148 (lv_at hl 0 rfl) ?_
          refine lv_iconst (v := nI 2) hx hb dX8_writes_150 (by decide) ?_
          refine lv_icmp_ne (tgt := 172) hx hb dX8_writes_151 (by decide) (fun _ => ?_) (fun q9 => absurd (h2.symm.trans q9) (by decide))
          refine lv_iload hx hb dX8_writes_172 (lv_at hl 0 rfl) ?_
          refine lv_iconst (v := nI 3) hx hb dX8_writes_174 (by decide) ?_
          refine lv_icmp_ne (tgt := 191) hx hb dX8_writes_175 (by decide) (fun _ => ?_) (fun q9 => absurd (h2.symm.trans q9) (by decide))
          refine lv_aload_n hx hb dX8_writes_191 rfl (lv_at hl 2 rfl) ?_
          refine lv_iload hx hb dX8_writes_192 (lv_at hl 1 rfl) ?_
          rw [hv9, ww_m] at h
          refine cl_X8_246 C h (hM 30 (by decide)) rfl (c_X8_puts l D cy ad Ls (wwS st (nI a9, vv, oI o9, lo9, x9.1, x9.2)) hM wn (by rw [gi_wwo (by decide)]; exact hwn) (x9.1, x9.2) (wRo st 35 (160 * t9) a9)) (x_room (by omega)) ⟨Nat.zero_le _, Nat.zero_le _⟩ hl.1 (Nat.le_of_ble_eq_true rfl) dX8_writes_194 (fun u17 H locs hp h => ?_)
          have Eu17 := hp; clear hp; rw [ww_mw] at Eu17
          refine lv_aload_n hx hb dX8_writes_197 rfl (lv_at hl 2 rfl) ?_
          refine lv_dup hx hb dX8_writes_198 rfl ?_
          refine gf_X8_134 C h (hM 30 (by decide)) rfl dX8_writes_199 ?_
          refine x_topi (y := nI a9) (by rw [Eu17]; exact gi_ww9) ?_
          refine lv_iconst (v := nI 1) hx hb dX8_writes_202 (by decide) ?_
          refine x_addN hx hb dX8_writes_203 ?_
          refine pf_X8_134 C h (hM 30 (by decide)) rfl dX8_writes_204 (fun H locs u19 eu19 h => ?_)
          rw [Eu17, ww_9] at eu19
          refine lv_goto (tgt := 27) hx hb dX8_writes_207 (by decide) ?_
          rw [show ((t1, tx, to, tl) : WQ) = ((a9 + 1), (wPut wn x9 (wRo st 35 (160 * t9) a9)), o9, lo9) from h3] at hrun
          exact ih27 u19 (a9 + 1) (wPut wn x9 (wRo st 35 (160 * t9) a9)) o9 lo9 vv n8 (by omega) ho9 hrun eu19 (by omega) H locs ls h (lv_sub hl [2, 3, 4, 5] rfl)
  exact L27 (N9 + 1) u4 0 (nI 0, nI 32) none lo0 v0 N9 (by omega) (fun j q9 => by cases q9) hrun eu4 (by omega) H locs ls h (lv_sub hl [1, 2, 3, 0] rfl)
