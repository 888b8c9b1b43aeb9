/-! ===== InvoiceSmith$Reader ===== -/
theorem nmL_mem {l : List Int32} {n : Nat} (hn : l.length = n) {t : Int32} : (∃ j, j < n ∧ l.getD j 0 = t) ↔ t ∈ l := by
  constructor
  · rintro ⟨j, hj, rfl⟩
    rw [List.getD_eq_getElem?_getD, List.getElem?_eq_getElem (by omega)]
    exact List.getElem_mem _
  · intro h
    obtain ⟨j, hj, e⟩ := List.mem_iff_getElem.mp h
    exact ⟨j, by omega, by rw [List.getD_eq_getElem?_getD, List.getElem?_eq_getElem hj]; exact e⟩
theorem nm_dec0 : ∀ w, w < 256 → (decide ((nI w).toInt8.toInt32 ∈ nmL0) = nmL0.contains (nI w)) := by decide +kernel
theorem nm_dec1 : ∀ w, w < 256 → (decide ((nI w).toInt8.toInt32 ∈ nmL1) = nmL1.contains (nI w)) := by decide +kernel
theorem nm_in0 : ∀ a ∈ nmL0, 0 ≤ a ∧ a ≤ nI 255 := by decide +kernel
theorem nm_in1 : ∀ a ∈ nmL1, 0 ≤ a ∧ a ≤ nI 255 := by decide +kernel
theorem nm_w {c : Int32} (h : 0 ≤ c ∧ c ≤ nI 255) : ∃ w, w < 256 ∧ c = nI w := by
  obtain ⟨w, hw, e⟩ := nI_of2 (M := nI 255) (n := 255) rfl (fun q => by rw [Int32.lt_iff_toInt_lt] at q; have := Int32.le_iff_toInt_le.mp h.1; omega) h.2
  exact ⟨w, by omega, e⟩
theorem inB_0 (c : Int32) : inB nmL0 7 c ↔ nmL0.contains c = true := by
  unfold inB
  rw [nmL_mem (l := nmL0) (n := 7) rfl]
  constructor
  · rintro ⟨h, hm⟩
    obtain ⟨w, hw, rfl⟩ := nm_w h
    rw [← nm_dec0 w hw]; exact decide_eq_true hm
  · intro hc
    have h := nm_in0 c (List.contains_iff_mem.mp hc)
    obtain ⟨w, hw, rfl⟩ := nm_w h
    refine ⟨h, ?_⟩
    rw [← nm_dec0 w hw] at hc; exact of_decide_eq_true hc
theorem inB_1 (c : Int32) : inB nmL1 6 c ↔ nmL1.contains c = true := by
  unfold inB
  rw [nmL_mem (l := nmL1) (n := 6) rfl]
  constructor
  · rintro ⟨h, hm⟩
    obtain ⟨w, hw, rfl⟩ := nm_w h
    rw [← nm_dec1 w hw]; exact decide_eq_true hm
  · intro hc
    have h := nm_in1 c (List.contains_iff_mem.mp hc)
    obtain ⟨w, hw, rfl⟩ := nm_w h
    refine ⟨h, ?_⟩
    rw [← nm_dec1 w hw] at hc; exact of_decide_eq_true hc
/-- indexOf on one of the two texts, from a method of the reader -/
theorem xr_index {p : Program} {l : Launch} {e : Env} {R : Room} {s : State} {m : MethodId} {args : Array Value} {below : List Frame} {meth : Method} {c : Code} {H : Heap} {locs : List Loc} {Q : State → Prop} {cc : ByteArray} {pc nL : Nat} {ls : Array Slot} {D : va_G} {cy : Nat → ClassId} {ad : Nat → Nat} {Ls : List Nat} {A : Nat → Prop} {st : XS}
    (C : xCx p m c cc nL s args RX5 D cy) (h : xH D cy ad Ls A s st H locs) {q v len : Nat} {bs : List Int32} (hlen : len < 2 ^ 31) (hE : xStr q v len bs A s s.heap) {ch : Int32} (hR : 3 + 1 ≤ R.frames ∧ 40 * (3 + 1) ≤ R.locals) (hsz : ls.size = nL) (hdg : decode cc pc = .ok (.invokevirtual 87, 3))
    (kk : ∀ (r : Int32) (H1 : Heap) (locs1 : List Loc), (0 ≤ r ↔ inB bs len ch) → xH D cy ad Ls A s st H1 locs1 → W p l e R s m args below meth c H1 locs1 0 0 Q (F0 m (pc + 3) ls [.int r])) : W p l e R s m args below meth c H locs 0 0 Q (F0 m pc ls [.int ch, .ref q]) :=
  x_fi h (x_rVg (As := [.int ch]) (rest := []) C (xj_recv h hE) (c_J0_indexOf l D cy ad Ls st q v len bs hlen ch H.size) (xPreE_blind (xStr_ok q v len bs)) (fun U hU hW => ⟨rfl, x_preE (xStr_ok q v len bs) C h hE U hU hW⟩) rfl rfl rfl rfl tb436 tb437 tb438 tb56 tb439 (na := 1) rfl (by decide +kernel) hR (by decide) ⟨Nat.zero_le _, Nat.zero_le _⟩ hsz rfl (Nat.le_of_ble_eq_true rfl) hdg) (fun r u H1 locs1 hp h1 => kk r H1 locs1 hp.1 (by rw [← hp.2]; exact h1))

set_option maxHeartbeats 4000000 in
set_option maxRecDepth 100000 in
theorem c_X5_isDigit (l : Launch) (D : va_G) (cy : Nat → ClassId) (ad : Nat → Nat) (Ls : List Nat) (st : XS) (x : Int32) : xMi l yX5_isDigit cX5_isDigit 1 (some .boolean) 0 D cy ad Ls st [.int x] (fun r u => r = bi (dgB x) ∧ u = st) := by
  intro sz
  refine x_of sz (by decide +kernel) (Nat.le_of_ble_eq_true rfl) ?_
  intro p e s m args below meth c ls hx hb hr hlocks C hsz h hl
  have hl : lv_has ls 1 [(0, .int x)] := hl
  obtain ⟨H, eH⟩ : ∃ z, z = s.heap := ⟨_, rfl⟩
  obtain ⟨locs, eL⟩ : ∃ z : List Loc, z = [] := ⟨_, rfl⟩
  rw [← eH, ← eL] at h
  rw [← eH, ← eL]
  clear eH eL
  refine lv_iload_n hx hb dX5_isDigit_0 rfl (lv_at hl 0 rfl) ?_
  refine lv_bipush (v := nI 48) hx hb dX5_isDigit_1 (by decide) ?_
  refine lv_icmp_lt (tgt := 16) hx hb dX5_isDigit_3 (by decide) (fun c3 => ?_) (fun c3 => ?_)
  · refine lv_iconst (v := nI 0) hx hb dX5_isDigit_16 (by decide) ?_
    exact x_zret C hr hlocks (by first | rfl | exact bi_zn _ | decide) h ⟨by rw [dgB, decide_eq_false (fun q => q c3)]; rfl, rfl⟩ dX5_isDigit_17
  · refine lv_iload_n hx hb dX5_isDigit_6 rfl (lv_at hl 0 rfl) ?_
    refine lv_bipush (v := nI 57) hx hb dX5_isDigit_7 (by decide) ?_
    refine lv_icmp_gt (tgt := 16) hx hb dX5_isDigit_9 (by decide) (fun c9 => ?_) (fun c9 => ?_)
    · refine lv_iconst (v := nI 0) hx hb dX5_isDigit_16 (by decide) ?_
      exact x_zret C hr hlocks (by first | rfl | exact bi_zn _ | decide) h ⟨by rw [dgB, decide_eq_false (p := ¬ nI 57 < x) (fun q => q c9), Bool.and_false]; rfl, rfl⟩ dX5_isDigit_17
    · refine lv_iconst (v := nI 1) hx hb dX5_isDigit_12 (by decide) ?_
      refine lv_goto (tgt := 17) hx hb dX5_isDigit_13 (by decide) ?_
      exact x_zret C hr hlocks (by first | rfl | exact bi_zn _ | decide) h ⟨by rw [dgB, decide_eq_true c3, decide_eq_true c9]; rfl, rfl⟩ dX5_isDigit_17

set_option maxHeartbeats 4000000 in
set_option maxRecDepth 100000 in
theorem c_X5_isName (l : Launch) (D : va_G) (cy : Nat → ClassId) (ad : Nat → Nat) (Ls : List Nat) (st : XS) (x : Int32) (il : Bool) : xMi l yX5_isName cX5_isName 2 (some .boolean) 4 D cy ad Ls st [.int x, .int (bi il)] (fun r u => r = bi (nmB x il) ∧ u = st) := by
  intro sz
  refine x_of sz (by decide +kernel) (Nat.le_of_ble_eq_true rfl) ?_
  intro p e s m args below meth c ls hx hb hr hlocks C hsz h hl
  have hl : lv_has ls 2 [(0, .int x), (1, .int (bi il))] := hl
  obtain ⟨adK, adV, hS9, hR0, hR1⟩ := h.2.2.2.2.2.2.2.1
  obtain ⟨H, eH⟩ : ∃ z, z = s.heap := ⟨_, rfl⟩
  obtain ⟨locs, eL⟩ : ∃ z : List Loc, z = [] := ⟨_, rfl⟩
  rw [← eH, ← eL] at h
  rw [← eH, ← eL]
  clear eH eL
  refine va_ldcS hx hb C.2.2.2.1 hR0 dX5_isName_0 ?_
  refine lv_iload_n hx hb dX5_isName_2 rfl (lv_at hl 0 rfl) ?_
  refine xr_index C h (len := 7) (bs := nmL0) (by decide) (hS9.1 0 (by decide)) (x_room (by omega)) hl.1 dX5_isName_3 (fun r1 H locs er1 h => ?_)
  rw [inB_0] at er1
  refine lv_if_ge (tgt := 22) hx hb dX5_isName_6 (by decide) (fun k0 => ?_) (fun k0 => ?_)
  · have t0 := er1.mp (k0)
    refine lv_iconst (v := nI 1) hx hb dX5_isName_22 (by decide) ?_
    refine lv_goto (tgt := 27) hx hb dX5_isName_23 (by decide) ?_
    exact x_zret C hr hlocks (by first | rfl | exact bi_zn _ | decide) h ⟨by rw [nmB, t0]; rfl, rfl⟩ dX5_isName_27
  · have t0 : nmL0.contains x = false := by rw [← Bool.not_eq_true]; exact fun q => k0 (er1.mpr q)
    refine lv_iload_n hx hb dX5_isName_9 rfl (lv_at hl 1 rfl) ?_
    refine x_ifb_eq (tgt := 26) hx hb dX5_isName_10 (by decide) (fun c10 => ?_) (fun c10 => ?_)
    · refine lv_iconst (v := nI 0) hx hb dX5_isName_26 (by decide) ?_
      exact x_zret C hr hlocks (by first | rfl | exact bi_zn _ | decide) h ⟨by rw [nmB, t0, c10]; rfl, rfl⟩ dX5_isName_27
    · refine va_ldcS hx hb C.2.2.2.1 hR1 dX5_isName_13 ?_
      refine lv_iload_n hx hb dX5_isName_15 rfl (lv_at hl 0 rfl) ?_
      refine xr_index C h (len := 6) (bs := nmL1) (by decide) (hS9.1 1 (by decide)) (x_room (by omega)) hl.1 dX5_isName_16 (fun r2 H locs er2 h => ?_)
      rw [inB_1] at er2
      refine lv_if_lt (tgt := 26) hx hb dX5_isName_19 (by decide) (fun k1 => ?_) (fun k1 => ?_)
      · have t1 : nmL1.contains x = false := by rw [← Bool.not_eq_true]; exact fun q => i32_lt_nle k1 (er2.mpr q)
        refine lv_iconst (v := nI 0) hx hb dX5_isName_26 (by decide) ?_
        exact x_zret C hr hlocks (by first | rfl | exact bi_zn _ | decide) h ⟨by rw [nmB, t0, c10, t1]; rfl, rfl⟩ dX5_isName_27
      · have t1 := er2.mp (i32_nlt k1)
        refine lv_iconst (v := nI 1) hx hb dX5_isName_22 (by decide) ?_
        refine lv_goto (tgt := 27) hx hb dX5_isName_23 (by decide) ?_
        exact x_zret C hr hlocks (by first | rfl | exact bi_zn _ | decide) h ⟨by rw [nmB, t0, c10, t1]; rfl, rfl⟩ dX5_isName_27

set_option maxHeartbeats 4000000 in
set_option maxRecDepth 100000 in
theorem c_X5_skip (l : Launch) (D : va_G) (cy : Nat → ClassId) (ad : Nat → Nat) (Ls : List Nat) (st : XS) (hL : ∀ k, xC k = true → k ∈ Ls) {g : Nat} (hg40 : g < 40) (hG : ∀ j, j < 4 → 300 + 4 * g + j ∈ Ls) (hgp : gp st 1 1 = some (300 + 4 * g)) (np : Nat) (hnp : gi st 1 2 = nI np) (a p9 z : Int32) (d f w : Nat → Int32) (ch : Int32) : xMi l yX5_skip cX5_skip 3 (some .boolean) 2 D cy ad Ls (rdS st g (a, p9, z, d, f, w)) [.ref (ad 1), .int ch] (fun r u => r = bi (rSkip (ga st 11) np ch (a, p9, z, d, f, w)).1 ∧ u = rdS st g (rSkip (ga st 11) np ch (a, p9, z, d, f, w)).2) := by
  intro sz
  refine x_of sz (by decide +kernel) (Nat.le_of_ble_eq_true rfl) ?_
  intro p e s m args below meth c ls hx hb hr hlocks C hsz h hl
  have hl : lv_has ls 3 [(0, .ref (ad 1)), (1, .int ch)] := hl
  obtain ⟨H, eH⟩ : ∃ z, z = s.heap := ⟨_, rfl⟩
  obtain ⟨locs, eL⟩ : ∃ z : List Loc, z = [] := ⟨_, rfl⟩
  rw [← eH, ← eL] at h
  rw [← eH, ← eL]
  clear eH eL
  obtain ⟨v, hv⟩ : ∃ v, v = rdS st g (a, p9, z, d, f, w) := ⟨_, rfl⟩
  rw [← hv] at h
  refine lv_aload_n hx hb dX5_skip_0 rfl (lv_at hl 0 rfl) ?_
  refine gf_X5_12 C h (hL 1 rfl) rfl (k2 := 2) rfl dX5_skip_1 ?_
  refine lv_aload_n hx hb dX5_skip_4 rfl (lv_at hl 0 rfl) ?_
  refine gf_X5_29 C h (hL 1 rfl) rfl dX5_skip_5 ?_
  refine x_topi (y := a) (by rw [hv]; exact gi_rd_a ..) ?_
  refine cl_X5_40 C h (hL 2 rfl) rfl (c_X3_signAt l D cy ad Ls v hL np (by rw [hv, gi_rd_o (by decide) (by decide) (by omega)]; exact hnp) a) (x_room (by omega)) ⟨Nat.zero_le _, Nat.zero_le _⟩ hl.1 (Nat.le_of_ble_eq_true rfl) dX5_skip_8 (fun r2 u1 H locs hp h => ?_)
  obtain ⟨er2, eu1⟩ := hp; rw [eu1] at h; clear eu1 u1; refine x_topi er2 ?_; clear er2 r2
  refine x_topi (y := sgF (ga st 11) np a) (by rw [hv, ga_rd_o (by decide)]) ?_
  refine lv_iload_n hx hb dX5_skip_11 rfl (lv_at hl 1 rfl) ?_
  refine lv_icmp_ne (tgt := 19) hx hb dX5_skip_12 (by decide) (fun c12 => ?_) (fun c12 => ?_)
  · refine lv_iconst (v := nI 0) hx hb dX5_skip_19 (by decide) ?_
    refine lv_istore_n (lv' := [(2, .int (nI 0)), (0, .ref (ad 1)), (1, .int ch)]) hx hb dX5_skip_20 rfl hl (by decide) rfl (fun ls hl => ?_)
    refine lv_iload_n hx hb dX5_skip_21 rfl (lv_at hl 0 rfl) ?_
    refine x_ifN_eq (tgt := 35) hx hb dX5_skip_22 (by decide) (by decide) (fun _ => ?_) (fun z9 => absurd z9 (by decide))
    refine lv_iload_n hx hb dX5_skip_35 rfl (lv_at hl 0 rfl) ?_
    have hF : rSkip (ga st 11) np ch (a, p9, z, d, f, w) = (false, (a, p9, z, d, f, w)) := by
      simp only [rSkip, rUp, rPt, rUp2, rAdd, rAim, if_true, if_false, Bool.false_eq_true, not_true_eq_false, not_false_eq_true, and_true, true_and, and_false, false_and, eq_self, decide_true, decide_false, Nat.lt_irrefl, Bool.not_eq_true, Bool.and_true, Bool.and_false, Bool.false_and, Bool.true_and, Bool.or_true, Bool.or_false, Bool.true_or, Bool.false_or, reduceCtorEq, c12]
    exact x_zret C hr hlocks (by first | rfl | exact bi_zn _ | decide) h ⟨by rw [hF]; rfl, by rw [hF]; exact hv⟩ dX5_skip_36
  · refine lv_iconst (v := nI 1) hx hb dX5_skip_15 (by decide) ?_
    refine lv_goto (tgt := 20) hx hb dX5_skip_16 (by decide) ?_
    refine lv_istore_n (lv' := [(2, .int (nI 1)), (0, .ref (ad 1)), (1, .int ch)]) hx hb dX5_skip_20 rfl hl (by decide) rfl (fun ls hl => ?_)
    refine lv_iload_n hx hb dX5_skip_21 rfl (lv_at hl 0 rfl) ?_
    refine x_ifN_eq (tgt := 35) hx hb dX5_skip_22 (by decide) (by decide) (fun z9 => absurd z9 (by decide)) (fun _ => ?_)
    refine lv_aload_n hx hb dX5_skip_25 rfl (lv_at hl 1 rfl) ?_
    refine lv_dup hx hb dX5_skip_26 rfl ?_
    refine gf_X5_29 C h (hL 1 rfl) rfl dX5_skip_27 ?_
    refine x_topi (y := a) (by rw [hv]; exact gi_rd_a ..) ?_
    refine lv_iconst (v := nI 1) hx hb dX5_skip_30 (by decide) ?_
    refine lv_iadd hx hb dX5_skip_31 ?_
    refine pf_X5_29 C h (hL 1 rfl) rfl dX5_skip_32 (fun H locs u3 eu3 h => ?_)
    rw [hv, rd_a] at eu3
    refine lv_iload_n hx hb dX5_skip_35 rfl (lv_at hl 0 rfl) ?_
    have hF : rSkip (ga st 11) np ch (a, p9, z, d, f, w) = (true, (a + (nI 1), p9, z, d, f, w)) := by
      simp only [rSkip, rUp, rPt, rUp2, rAdd, rAim, if_true, if_false, Bool.false_eq_true, not_true_eq_false, not_false_eq_true, and_true, true_and, and_false, false_and, eq_self, decide_true, decide_false, Nat.lt_irrefl, Bool.not_eq_true, Bool.and_true, Bool.and_false, Bool.false_and, Bool.true_and, Bool.or_true, Bool.or_false, Bool.true_or, Bool.false_or, reduceCtorEq, c12]
    exact x_zret C hr hlocks (by first | rfl | exact bi_zn _ | decide) h ⟨by rw [hF]; rfl, by rw [hF]; exact eu3⟩ dX5_skip_36

set_option maxHeartbeats 4000000 in
set_option maxRecDepth 100000 in
theorem c_X5_endsLoop (l : Launch) (D : va_G) (cy : Nat → ClassId) (ad : Nat → Nat) (Ls : List Nat) (st : XS) (hL : ∀ k, xC k = true → k ∈ Ls) {g : Nat} (hg40 : g < 40) (hG : ∀ j, j < 4 → 300 + 4 * g + j ∈ Ls) (hgp : gp st 1 1 = some (300 + 4 * g)) (np : Nat) (hnp : gi st 1 2 = nI np) (a p9 z : Int32) (d f w : Nat → Int32)  : xMi l yX5_endsLoop cX5_endsLoop 1 (some .boolean) 2 D cy ad Ls (rdS st g (a, p9, z, d, f, w)) [.ref (ad 1)] (fun r u => r = bi (rEnds (ga st 11) np (a, p9, z, d, f, w)) ∧ u = rdS st g (a, p9, z, d, f, w)) := by
  intro sz
  refine x_of sz (by decide +kernel) (Nat.le_of_ble_eq_true rfl) ?_
  intro p e s m args below meth c ls hx hb hr hlocks C hsz h hl
  have hl : lv_has ls 1 [(0, .ref (ad 1))] := hl
  obtain ⟨H, eH⟩ : ∃ z, z = s.heap := ⟨_, rfl⟩
  obtain ⟨locs, eL⟩ : ∃ z : List Loc, z = [] := ⟨_, rfl⟩
  rw [← eH, ← eL] at h
  rw [← eH, ← eL]
  clear eH eL
  obtain ⟨v, hv⟩ : ∃ v, v = rdS st g (a, p9, z, d, f, w) := ⟨_, rfl⟩
  rw [← hv] at h
  refine lv_aload_n hx hb dX5_endsLoop_0 rfl (lv_at hl 0 rfl) ?_
  refine gf_X5_12 C h (hL 1 rfl) rfl (k2 := 2) rfl dX5_endsLoop_1 ?_
  refine lv_aload_n hx hb dX5_endsLoop_4 rfl (lv_at hl 0 rfl) ?_
  refine gf_X5_29 C h (hL 1 rfl) rfl dX5_endsLoop_5 ?_
  refine x_topi (y := a) (by rw [hv]; exact gi_rd_a ..) ?_
  refine cl_X5_40 C h (hL 2 rfl) rfl (c_X3_signAt l D cy ad Ls v hL np (by rw [hv, gi_rd_o (by decide) (by decide) (by omega)]; exact hnp) a) (x_room (by omega)) ⟨Nat.zero_le _, Nat.zero_le _⟩ hl.1 (Nat.le_of_ble_eq_true rfl) dX5_endsLoop_8 (fun r2 u1 H locs hp h => ?_)
  obtain ⟨er2, eu1⟩ := hp; rw [eu1] at h; clear eu1 u1; refine x_topi er2 ?_; clear er2 r2
  refine x_topi (y := sgF (ga st 11) np a) (by rw [hv, ga_rd_o (by decide)]) ?_
  refine lv_bipush (v := nI 42) hx hb dX5_endsLoop_11 (by decide) ?_
  refine lv_icmp_ne (tgt := 38) hx hb dX5_endsLoop_13 (by decide) (fun c13 => ?_) (fun c13 => ?_)
  · refine lv_iconst (v := nI 0) hx hb dX5_endsLoop_38 (by decide) ?_
    exact x_zret C hr hlocks (by first | rfl | exact bi_zn _ | decide) h ⟨by rw [rEnds, if_neg c13]; rfl, hv⟩ dX5_endsLoop_39
  · refine lv_aload_n hx hb dX5_endsLoop_16 rfl (lv_at hl 0 rfl) ?_
    refine gf_X5_12 C h (hL 1 rfl) rfl (k2 := 2) rfl dX5_endsLoop_17 ?_
    refine lv_aload_n hx hb dX5_endsLoop_20 rfl (lv_at hl 0 rfl) ?_
    refine gf_X5_29 C h (hL 1 rfl) rfl dX5_endsLoop_21 ?_
    refine x_topi (y := a) (by rw [hv]; exact gi_rd_a ..) ?_
    refine lv_iconst (v := nI 1) hx hb dX5_endsLoop_24 (by decide) ?_
    refine lv_iadd hx hb dX5_endsLoop_25 ?_
    refine cl_X5_40 C h (hL 2 rfl) rfl (c_X3_signAt l D cy ad Ls v hL np (by rw [hv, gi_rd_o (by decide) (by decide) (by omega)]; exact hnp) (a + (nI 1))) (x_room (by omega)) ⟨Nat.zero_le _, Nat.zero_le _⟩ hl.1 (Nat.le_of_ble_eq_true rfl) dX5_endsLoop_26 (fun r4 u3 H locs hp h => ?_)
    obtain ⟨er4, eu3⟩ := hp; rw [eu3] at h; clear eu3 u3; refine x_topi er4 ?_; clear er4 r4
    refine x_topi (y := sgF (ga st 11) np (a + (nI 1))) (by rw [hv, ga_rd_o (by decide)]) ?_
    refine lv_bipush (v := nI 125) hx hb dX5_endsLoop_29 (by decide) ?_
    refine lv_icmp_ne (tgt := 38) hx hb dX5_endsLoop_31 (by decide) (fun c31 => ?_) (fun c31 => ?_)
    · refine lv_iconst (v := nI 0) hx hb dX5_endsLoop_38 (by decide) ?_
      exact x_zret C hr hlocks (by first | rfl | exact bi_zn _ | decide) h ⟨by rw [rEnds, if_pos c13, decide_eq_false c31]; rfl, hv⟩ dX5_endsLoop_39
    · refine lv_iconst (v := nI 1) hx hb dX5_endsLoop_34 (by decide) ?_
      refine lv_goto (tgt := 39) hx hb dX5_endsLoop_35 (by decide) ?_
      exact x_zret C hr hlocks (by first | rfl | exact bi_zn _ | decide) h ⟨by rw [rEnds, if_pos c13, decide_eq_true c31]; rfl, hv⟩ dX5_endsLoop_39

set_option maxHeartbeats 4000000 in
set_option maxRecDepth 100000 in
theorem c_X5_readField (l : Launch) (D : va_G) (cy : Nat → ClassId) (ad : Nat → Nat) (Ls : List Nat) (st : XS) (hL : ∀ k, xC k = true → k ∈ Ls) {g : Nat} (hg40 : g < 40) (hG : ∀ j, j < 4 → 300 + 4 * g + j ∈ Ls) (hgp : gp st 1 1 = some (300 + 4 * g)) (np : Nat) (hnp : gi st 1 2 = nI np) (a p9 z : Int32) (d f w : Nat → Int32) (il : Bool) : xMi l yX5_readField cX5_readField 5 (some .boolean) 5 D cy ad Ls (rdS st g (a, p9, z, d, f, w)) [.ref (ad 1), .int (bi il)] (fun r u => r = bi (rField (ga st 11) np il (a, p9, z, d, f, w)).1 ∧ u = rdS st g (rField (ga st 11) np il (a, p9, z, d, f, w)).2) := by
  intro sz
  refine x_of sz (by decide +kernel) (Nat.le_of_ble_eq_true rfl) ?_
  intro p e s m args below meth c ls hx hb hr hlocks C hsz h hl
  have hl : lv_has ls 5 [(0, .ref (ad 1)), (1, .int (bi il))] := hl
  obtain ⟨H, eH⟩ : ∃ z, z = s.heap := ⟨_, rfl⟩
  obtain ⟨locs, eL⟩ : ∃ z : List Loc, z = [] := ⟨_, rfl⟩
  rw [← eH, ← eL] at h
  rw [← eH, ← eL]
  clear eH eL
  obtain ⟨v, hv⟩ : ∃ v, v = rdS st g (a, p9, z, d, f, w) := ⟨_, rfl⟩
  rw [← hv] at h
  refine lv_aload_n hx hb dX5_readField_0 rfl (lv_at hl 0 rfl) ?_
  refine gf_X5_12 C h (hL 1 rfl) rfl (k2 := 2) rfl dX5_readField_1 ?_
  refine lv_aload_n hx hb dX5_readField_4 rfl (lv_at hl 0 rfl) ?_
  refine gf_X5_29 C h (hL 1 rfl) rfl dX5_readField_5 ?_
  refine x_topi (y := a) (by rw [hv]; exact gi_rd_a ..) ?_
  refine cl_X5_40 C h (hL 2 rfl) rfl (c_X3_signAt l D cy ad Ls v hL np (by rw [hv, gi_rd_o (by decide) (by decide) (by omega)]; exact hnp) a) (x_room (by omega)) ⟨Nat.zero_le _, Nat.zero_le _⟩ hl.1 (Nat.le_of_ble_eq_true rfl) dX5_readField_8 (fun r2 u1 H locs hp h => ?_)
  obtain ⟨er2, eu1⟩ := hp; rw [eu1] at h; clear eu1 u1; refine x_topi er2 ?_; clear er2 r2
  refine x_topi (y := sgF (ga st 11) np a) (by rw [hv, ga_rd_o (by decide)]) ?_
  refine lv_istore_n (lv' := [(2, .int (sgF (ga st 11) np a)), (0, .ref (ad 1)), (1, .int (bi il))]) hx hb dX5_readField_11 rfl hl (by decide) rfl (fun ls hl => ?_)
  refine lv_iload_n hx hb dX5_readField_12 rfl (lv_at hl 0 rfl) ?_
  refine lv_iload_n hx hb dX5_readField_13 rfl (lv_at hl 2 rfl) ?_
  refine cl_X5_75 C h (c_X5_isName l D cy ad Ls v (sgF (ga st 11) np a) il) (x_room (by omega)) ⟨Nat.zero_le _, Nat.zero_le _⟩ hl.1 (Nat.le_of_ble_eq_true rfl) dX5_readField_14 (fun r4 u3 H locs hp h => ?_)
  obtain ⟨er4, eu3⟩ := hp; rw [eu3] at h; clear eu3 u3; refine x_topi er4 ?_; clear er4 r4
  refine x_ifb_ne (tgt := 22) hx hb dX5_readField_17 (by decide) (fun c17 => ?_) (fun c17 => ?_)
  · refine lv_aload_n hx hb dX5_readField_22 rfl (lv_at hl 1 rfl) ?_
    refine lv_dup hx hb dX5_readField_23 rfl ?_
    refine gf_X5_29 C h (hL 1 rfl) rfl dX5_readField_24 ?_
    refine x_topi (y := a) (by rw [hv]; exact gi_rd_a ..) ?_
    refine lv_iconst (v := nI 1) hx hb dX5_readField_27 (by decide) ?_
    refine lv_iadd hx hb dX5_readField_28 ?_
    refine pf_X5_29 C h (hL 1 rfl) rfl dX5_readField_29 (fun H locs u5 eu5 h => ?_)
    rw [hv, rd_a] at eu5
    refine lv_aload_n hx hb dX5_readField_32 rfl (lv_at hl 1 rfl) ?_
    refine lv_dup hx hb dX5_readField_33 rfl ?_
    refine gf_X5_32 C h (hL 1 rfl) rfl dX5_readField_34 ?_
    refine x_topi (y := p9) (by rw [eu5]; exact gi_rd_p ..) ?_
    refine lv_iconst (v := nI 1) hx hb dX5_readField_37 (by decide) ?_
    refine lv_iadd hx hb dX5_readField_38 ?_
    refine pf_X5_32 C h (hL 1 rfl) rfl dX5_readField_39 (fun H locs u6 eu6 h => ?_)
    rw [eu5, rd_p] at eu6
    refine lv_iconst (v := nI 0) hx hb dX5_readField_42 (by decide) ?_
    refine lv_istore_n (lv' := [(3, .int (nI 0)), (2, .int (sgF (ga st 11) np a)), (0, .ref (ad 1)), (1, .int (bi il))]) hx hb dX5_readField_43 rfl hl (by decide) rfl (fun ls hl => ?_)
    refine lv_aload_n hx hb dX5_readField_44 rfl (lv_at hl 2 rfl) ?_
    refine gf_X5_12 C h (hL 1 rfl) rfl (k2 := 2) rfl dX5_readField_45 ?_
    refine lv_aload_n hx hb dX5_readField_48 rfl (lv_at hl 2 rfl) ?_
    refine gf_X5_29 C h (hL 1 rfl) rfl dX5_readField_49 ?_
    refine x_topi (y := a + (nI 1)) (by rw [eu6]; exact gi_rd_a ..) ?_
    refine cl_X5_40 C h (hL 2 rfl) rfl (c_X3_signAt l D cy ad Ls u6 hL np (by rw [eu6, gi_rd_o (by decide) (by decide) (by omega)]; exact hnp) (a + (nI 1))) (x_room (by omega)) ⟨Nat.zero_le _, Nat.zero_le _⟩ hl.1 (Nat.le_of_ble_eq_true rfl) dX5_readField_52 (fun r8 u7 H locs hp h => ?_)
    obtain ⟨er8, eu7⟩ := hp; rw [eu7] at h; clear eu7 u7; refine x_topi er8 ?_; clear er8 r8
    refine x_topi (y := sgF (ga st 11) np (a + (nI 1))) (by rw [eu6, ga_rd_o (by decide)]) ?_
    refine lv_istore (lv' := [(4, .int (sgF (ga st 11) np (a + (nI 1)))), (3, .int (nI 0)), (2, .int (sgF (ga st 11) np a)), (0, .ref (ad 1)), (1, .int (bi il))]) hx hb dX5_readField_55 hl (by decide) rfl (fun ls hl => ?_)
    refine lv_iload hx hb dX5_readField_57 (lv_at hl 0 rfl) ?_
    refine lv_bipush (v := nI 49) hx hb dX5_readField_59 (by decide) ?_
    refine lv_icmp_lt (tgt := 87) hx hb dX5_readField_61 (by decide) (fun c61 => ?_) (fun c61 => ?_)
    · refine lv_aload_n hx hb dX5_readField_87 rfl (lv_at hl 3 rfl) ?_
      refine gf_X5_21 C h (hL 1 rfl) rfl dX5_readField_88 ?_
      refine x_topref (q := ad (300 + 4 * g)) (by rw [eu6, gp_rd, hgp]; rfl) ?_
      refine lv_iconst (v := nI 1) hx hb dX5_readField_91 (by decide) ?_
      refine lv_iload_n hx hb dX5_readField_92 rfl (lv_at hl 2 rfl) ?_
      refine lv_iload_n hx hb dX5_readField_93 rfl (lv_at hl 1 rfl) ?_
      refine cl_X5_48 C h (show 300 + 4 * g ∈ Ls from hG 0 (by decide)) (kd_f0 hg40) (c_X1_add l D cy ad Ls u6 hg40 hG z (by rw [eu6]; exact gi_rd_z ..) (nI 1) (sgF (ga st 11) np a) (nI 0)) (x_room (by omega)) ⟨Nat.zero_le _, Nat.zero_le _⟩ hl.1 (Nat.le_of_ble_eq_true rfl) dX5_readField_94 (fun r10 u9 H locs hp h => ?_)
      obtain ⟨er, eu⟩ := hp; rw [eu6, ga_rd_1, ga_rd_2, ga_rd_3, rd_1, rd_2, rd_3, rd_z] at eu; refine x_topi er ?_; clear er r10
      have Eu9 := eu; clear eu
      refine lv_pop hx hb dX5_readField_97 rfl ?_
      refine lv_aload_n hx hb dX5_readField_98 rfl (lv_at hl 3 rfl) ?_
      refine lv_bipush (v := nI 125) hx hb dX5_readField_99 (by decide) ?_
      rw [Eu9] at h
      refine cl_X5_67 C h (hL 1 rfl) rfl (c_X5_skip l D cy ad Ls st hL hg40 hG hgp np hnp (a + (nI 1)) (p9 + (nI 1)) (z + nI 1) (xset 160 d z (nI 1)) (xset 160 f z (sgF (ga st 11) np a)) (xset 160 w z (nI 0)) (nI 125)) (x_room (by omega)) ⟨Nat.zero_le _, Nat.zero_le _⟩ hl.1 (Nat.le_of_ble_eq_true rfl) dX5_readField_101 (fun r12 u11 H locs hp h => ?_)
      obtain ⟨q13, a13, p13_, z13, d13_, f13, w13, e13_⟩ : ∃ y0 y1 y2 y3 y4 y5 y6, rSkip (ga st 11) np (nI 125) (a + (nI 1), p9 + (nI 1), z + nI 1, xset 160 d z (nI 1), xset 160 f z (sgF (ga st 11) np a), xset 160 w z (nI 0)) = (y0, y1, y2, y3, y4, y5, y6) := ⟨_, _, _, _, _, _, _, rfl⟩
      obtain ⟨er, eu⟩ := hp; rw [e13_] at er eu; replace er : r12 = bi q13 := er; replace eu : u11 = rdS st g (a13, p13_, z13, d13_, f13, w13) := eu
      refine x_topi er ?_; clear er r12
      have Eu11 := eu; clear eu
      have hF : rField (ga st 11) np il (a, p9, z, d, f, w) = (q13, (a13, p13_, z13, d13_, f13, w13)) := by
        simp only [rField, rWid, rUp, rPt, rUp2, rAdd, rAim, if_true, if_false, Bool.false_eq_true, not_true_eq_false, not_false_eq_true, and_true, true_and, and_false, false_and, eq_self, decide_true, decide_false, Nat.lt_irrefl, Bool.not_eq_true, Bool.and_true, Bool.and_false, Bool.false_and, Bool.true_and, Bool.or_true, Bool.or_false, Bool.true_or, Bool.false_or, reduceCtorEq, c17, c61, e13_]
      exact x_zret C hr hlocks (by first | rfl | exact bi_zn _ | decide) h ⟨by rw [hF], by rw [hF]; exact Eu11⟩ dX5_readField_104
    · refine lv_iload hx hb dX5_readField_64 (lv_at hl 0 rfl) ?_
      refine lv_bipush (v := nI 57) hx hb dX5_readField_66 (by decide) ?_
      refine lv_icmp_gt (tgt := 87) hx hb dX5_readField_68 (by decide) (fun c68 => ?_) (fun c68 => ?_)
      · refine lv_aload_n hx hb dX5_readField_87 rfl (lv_at hl 3 rfl) ?_
        refine gf_X5_21 C h (hL 1 rfl) rfl dX5_readField_88 ?_
        refine x_topref (q := ad (300 + 4 * g)) (by rw [eu6, gp_rd, hgp]; rfl) ?_
        refine lv_iconst (v := nI 1) hx hb dX5_readField_91 (by decide) ?_
        refine lv_iload_n hx hb dX5_readField_92 rfl (lv_at hl 2 rfl) ?_
        refine lv_iload_n hx hb dX5_readField_93 rfl (lv_at hl 1 rfl) ?_
        refine cl_X5_48 C h (show 300 + 4 * g ∈ Ls from hG 0 (by decide)) (kd_f0 hg40) (c_X1_add l D cy ad Ls u6 hg40 hG z (by rw [eu6]; exact gi_rd_z ..) (nI 1) (sgF (ga st 11) np a) (nI 0)) (x_room (by omega)) ⟨Nat.zero_le _, Nat.zero_le _⟩ hl.1 (Nat.le_of_ble_eq_true rfl) dX5_readField_94 (fun r15 u14 H locs hp h => ?_)
        obtain ⟨er, eu⟩ := hp; rw [eu6, ga_rd_1, ga_rd_2, ga_rd_3, rd_1, rd_2, rd_3, rd_z] at eu; refine x_topi er ?_; clear er r15
        have Eu14 := eu; clear eu
        refine lv_pop hx hb dX5_readField_97 rfl ?_
        refine lv_aload_n hx hb dX5_readField_98 rfl (lv_at hl 3 rfl) ?_
        refine lv_bipush (v := nI 125) hx hb dX5_readField_99 (by decide) ?_
        rw [Eu14] at h
        refine cl_X5_67 C h (hL 1 rfl) rfl (c_X5_skip l D cy ad Ls st hL hg40 hG hgp np hnp (a + (nI 1)) (p9 + (nI 1)) (z + nI 1) (xset 160 d z (nI 1)) (xset 160 f z (sgF (ga st 11) np a)) (xset 160 w z (nI 0)) (nI 125)) (x_room (by omega)) ⟨Nat.zero_le _, Nat.zero_le _⟩ hl.1 (Nat.le_of_ble_eq_true rfl) dX5_readField_101 (fun r17 u16 H locs hp h => ?_)
        obtain ⟨q18, a18, p18_, z18, d18_, f18, w18, e18_⟩ : ∃ y0 y1 y2 y3 y4 y5 y6, rSkip (ga st 11) np (nI 125) (a + (nI 1), p9 + (nI 1), z + nI 1, xset 160 d z (nI 1), xset 160 f z (sgF (ga st 11) np a), xset 160 w z (nI 0)) = (y0, y1, y2, y3, y4, y5, y6) := ⟨_, _, _, _, _, _, _, rfl⟩
        obtain ⟨er, eu⟩ := hp; rw [e18_] at er eu; replace er : r17 = bi q18 := er; replace eu : u16 = rdS st g (a18, p18_, z18, d18_, f18, w18) := eu
        refine x_topi er ?_; clear er r17
        have Eu16 := eu; clear eu
        have hF : rField (ga st 11) np il (a, p9, z, d, f, w) = (q18, (a18, p18_, z18, d18_, f18, w18)) := by
          simp only [rField, rWid, rUp, rPt, rUp2, rAdd, rAim, if_true, if_false, Bool.false_eq_true, not_true_eq_false, not_false_eq_true, and_true, true_and, and_false, false_and, eq_self, decide_true, decide_false, Nat.lt_irrefl, Bool.not_eq_true, Bool.and_true, Bool.and_false, Bool.false_and, Bool.true_and, Bool.or_true, Bool.or_false, Bool.true_or, Bool.false_or, reduceCtorEq, c17, c61, c68, e18_]
        exact x_zret C hr hlocks (by first | rfl | exact bi_zn _ | decide) h ⟨by rw [hF], by rw [hF]; exact Eu16⟩ dX5_readField_104
      · refine lv_iload hx hb dX5_readField_71 (lv_at hl 0 rfl) ?_
        refine lv_bipush (v := nI 48) hx hb dX5_readField_73 (by decide) ?_
        refine lv_isub hx hb dX5_readField_75 ?_
        refine lv_istore_n (lv' := [(3, .int ((sgF (ga st 11) np (a + (nI 1))) - (nI 48))), (4, .int (sgF (ga st 11) np (a + (nI 1)))), (2, .int (sgF (ga st 11) np a)), (0, .ref (ad 1)), (1, .int (bi il))]) hx hb dX5_readField_76 rfl hl (by decide) rfl (fun ls hl => ?_)
        refine lv_aload_n hx hb dX5_readField_77 rfl (lv_at hl 3 rfl) ?_
        refine lv_dup hx hb dX5_readField_78 rfl ?_
        refine gf_X5_29 C h (hL 1 rfl) rfl dX5_readField_79 ?_
        refine x_topi (y := a + (nI 1)) (by rw [eu6]; exact gi_rd_a ..) ?_
        refine lv_iconst (v := nI 1) hx hb dX5_readField_82 (by decide) ?_
        refine lv_iadd hx hb dX5_readField_83 ?_
        refine pf_X5_29 C h (hL 1 rfl) rfl dX5_readField_84 (fun H locs u19 eu19 h => ?_)
        rw [eu6, rd_a] at eu19
        refine lv_aload_n hx hb dX5_readField_87 rfl (lv_at hl 3 rfl) ?_
        refine gf_X5_21 C h (hL 1 rfl) rfl dX5_readField_88 ?_
        refine x_topref (q := ad (300 + 4 * g)) (by rw [eu19, gp_rd, hgp]; rfl) ?_
        refine lv_iconst (v := nI 1) hx hb dX5_readField_91 (by decide) ?_
        refine lv_iload_n hx hb dX5_readField_92 rfl (lv_at hl 2 rfl) ?_
        refine lv_iload_n hx hb dX5_readField_93 rfl (lv_at hl 0 rfl) ?_
        refine cl_X5_48 C h (show 300 + 4 * g ∈ Ls from hG 0 (by decide)) (kd_f0 hg40) (c_X1_add l D cy ad Ls u19 hg40 hG z (by rw [eu19]; exact gi_rd_z ..) (nI 1) (sgF (ga st 11) np a) ((sgF (ga st 11) np (a + (nI 1))) - (nI 48))) (x_room (by omega)) ⟨Nat.zero_le _, Nat.zero_le _⟩ hl.1 (Nat.le_of_ble_eq_true rfl) dX5_readField_94 (fun r21 u20 H locs hp h => ?_)
        obtain ⟨er, eu⟩ := hp; rw [eu19, ga_rd_1, ga_rd_2, ga_rd_3, rd_1, rd_2, rd_3, rd_z] at eu; refine x_topi er ?_; clear er r21
        have Eu20 := eu; clear eu
        refine lv_pop hx hb dX5_readField_97 rfl ?_
        refine lv_aload_n hx hb dX5_readField_98 rfl (lv_at hl 3 rfl) ?_
        refine lv_bipush (v := nI 125) hx hb dX5_readField_99 (by decide) ?_
        rw [Eu20] at h
        refine cl_X5_67 C h (hL 1 rfl) rfl (c_X5_skip l D cy ad Ls st hL hg40 hG hgp np hnp ((a + (nI 1)) + (nI 1)) (p9 + (nI 1)) (z + nI 1) (xset 160 d z (nI 1)) (xset 160 f z (sgF (ga st 11) np a)) (xset 160 w z ((sgF (ga st 11) np (a + (nI 1))) - (nI 48))) (nI 125)) (x_room (by omega)) ⟨Nat.zero_le _, Nat.zero_le _⟩ hl.1 (Nat.le_of_ble_eq_true rfl) dX5_readField_101 (fun r23 u22 H locs hp h => ?_)
        obtain ⟨q24, a24, p24_, z24, d24_, f24, w24, e24_⟩ : ∃ y0 y1 y2 y3 y4 y5 y6, rSkip (ga st 11) np (nI 125) ((a + (nI 1)) + (nI 1), p9 + (nI 1), z + nI 1, xset 160 d z (nI 1), xset 160 f z (sgF (ga st 11) np a), xset 160 w z ((sgF (ga st 11) np (a + (nI 1))) - (nI 48))) = (y0, y1, y2, y3, y4, y5, y6) := ⟨_, _, _, _, _, _, _, rfl⟩
        obtain ⟨er, eu⟩ := hp; rw [e24_] at er eu; replace er : r23 = bi q24 := er; replace eu : u22 = rdS st g (a24, p24_, z24, d24_, f24, w24) := eu
        refine x_topi er ?_; clear er r23
        have Eu22 := eu; clear eu
        have hF : rField (ga st 11) np il (a, p9, z, d, f, w) = (q24, (a24, p24_, z24, d24_, f24, w24)) := by
          simp only [rField, rWid, rUp, rPt, rUp2, rAdd, rAim, if_true, if_false, Bool.false_eq_true, not_true_eq_false, not_false_eq_true, and_true, true_and, and_false, false_and, eq_self, decide_true, decide_false, Nat.lt_irrefl, Bool.not_eq_true, Bool.and_true, Bool.and_false, Bool.false_and, Bool.true_and, Bool.or_true, Bool.or_false, Bool.true_or, Bool.false_or, reduceCtorEq, c17, c61, c68, e24_]
        exact x_zret C hr hlocks (by first | rfl | exact bi_zn _ | decide) h ⟨by rw [hF], by rw [hF]; exact Eu22⟩ dX5_readField_104
  · refine lv_iconst (v := nI 0) hx hb dX5_readField_20 (by decide) ?_
    have hF : rField (ga st 11) np il (a, p9, z, d, f, w) = (false, (a, p9, z, d, f, w)) := by
      simp only [rField, rWid, rUp, rPt, rUp2, rAdd, rAim, if_true, if_false, Bool.false_eq_true, not_true_eq_false, not_false_eq_true, and_true, true_and, and_false, false_and, eq_self, decide_true, decide_false, Nat.lt_irrefl, Bool.not_eq_true, Bool.and_true, Bool.and_false, Bool.false_and, Bool.true_and, Bool.or_true, Bool.or_false, Bool.true_or, Bool.false_or, reduceCtorEq, c17]
    exact x_zret C hr hlocks (by first | rfl | exact bi_zn _ | decide) h ⟨by rw [hF]; rfl, by rw [hF]; exact hv⟩ dX5_readField_21

set_option maxHeartbeats 4000000 in
set_option maxRecDepth 100000 in
theorem c_X5_readTerm (l : Launch) (D : va_G) (cy : Nat → ClassId) (ad : Nat → Nat) (Ls : List Nat) (st : XS) (hL : ∀ k, xC k = true → k ∈ Ls) {g : Nat} (hg40 : g < 40) (hG : ∀ j, j < 4 → 300 + 4 * g + j ∈ Ls) (hgp : gp st 1 1 = some (300 + 4 * g)) (np : Nat) (hnp : gi st 1 2 = nI np) (a p9 z : Int32) (d f w : Nat → Int32) (deed : Int32) (il : Bool) : xMi l yX5_readTerm cX5_readTerm 6 (some .boolean) 5 D cy ad Ls (rdS st g (a, p9, z, d, f, w)) [.ref (ad 1), .int deed, .int (bi il)] (fun r u => r = bi (rTerm (ga st 11) np deed il (a, p9, z, d, f, w)).1 ∧ u = rdS st g (rTerm (ga st 11) np deed il (a, p9, z, d, f, w)).2) := by
  intro sz
  refine x_of sz (by decide +kernel) (Nat.le_of_ble_eq_true rfl) ?_
  intro p e s m args below meth c ls hx hb hr hlocks C hsz h hl
  have hl : lv_has ls 6 [(0, .ref (ad 1)), (1, .int deed), (2, .int (bi il))] := hl
  obtain ⟨H, eH⟩ : ∃ z, z = s.heap := ⟨_, rfl⟩
  obtain ⟨locs, eL⟩ : ∃ z : List Loc, z = [] := ⟨_, rfl⟩
  rw [← eH, ← eL] at h
  rw [← eH, ← eL]
  clear eH eL
  obtain ⟨v, hv⟩ : ∃ v, v = rdS st g (a, p9, z, d, f, w) := ⟨_, rfl⟩
  rw [← hv] at h
  refine lv_aload_n hx hb dX5_readTerm_0 rfl (lv_at hl 0 rfl) ?_
  refine gf_X5_12 C h (hL 1 rfl) rfl (k2 := 2) rfl dX5_readTerm_1 ?_
  refine lv_aload_n hx hb dX5_readTerm_4 rfl (lv_at hl 0 rfl) ?_
  refine gf_X5_29 C h (hL 1 rfl) rfl dX5_readTerm_5 ?_
  refine x_topi (y := a) (by rw [hv]; exact gi_rd_a ..) ?_
  refine cl_X5_40 C h (hL 2 rfl) rfl (c_X3_signAt l D cy ad Ls v hL np (by rw [hv, gi_rd_o (by decide) (by decide) (by omega)]; exact hnp) a) (x_room (by omega)) ⟨Nat.zero_le _, Nat.zero_le _⟩ hl.1 (Nat.le_of_ble_eq_true rfl) dX5_readTerm_8 (fun r2 u1 H locs hp h => ?_)
  obtain ⟨er2, eu1⟩ := hp; rw [eu1] at h; clear eu1 u1; refine x_topi er2 ?_; clear er2 r2
  refine x_topi (y := sgF (ga st 11) np a) (by rw [hv, ga_rd_o (by decide)]) ?_
  refine lv_istore_n (lv' := [(3, .int (sgF (ga st 11) np a)), (0, .ref (ad 1)), (1, .int deed), (2, .int (bi il))]) hx hb dX5_readTerm_11 rfl hl (by decide) rfl (fun ls hl => ?_)
  refine lv_iload_n hx hb dX5_readTerm_12 rfl (lv_at hl 0 rfl) ?_
  refine lv_iload_n hx hb dX5_readTerm_13 rfl (lv_at hl 3 rfl) ?_
  refine cl_X5_75 C h (c_X5_isName l D cy ad Ls v (sgF (ga st 11) np a) il) (x_room (by omega)) ⟨Nat.zero_le _, Nat.zero_le _⟩ hl.1 (Nat.le_of_ble_eq_true rfl) dX5_readTerm_14 (fun r4 u3 H locs hp h => ?_)
  obtain ⟨er4, eu3⟩ := hp; rw [eu3] at h; clear eu3 u3; refine x_topi er4 ?_; clear er4 r4
  refine x_ifb_eq (tgt := 43) hx hb dX5_readTerm_17 (by decide) (fun c17 => ?_) (fun c17 => ?_)
  · refine lv_iconst (v := nI 0) hx hb dX5_readTerm_43 (by decide) ?_
    refine lv_istore (lv' := [(4, .int (nI 0)), (3, .int (sgF (ga st 11) np a)), (0, .ref (ad 1)), (1, .int deed), (2, .int (bi il))]) hx hb dX5_readTerm_44 hl (by decide) rfl (fun ls hl => ?_)
    refine lv_iconst (v := nI 0) hx hb dX5_readTerm_46 (by decide) ?_
    refine lv_istore (lv' := [(5, .int (nI 0)), (4, .int (nI 0)), (3, .int (sgF (ga st 11) np a)), (0, .ref (ad 1)), (1, .int deed), (2, .int (bi il))]) hx hb dX5_readTerm_47 hl (by decide) rfl (fun ls hl => ?_)
    have L49 : ∀ (N49 : Nat) (v9 : XS) (aa : Int32) (vv : Int32) (t : Nat) (hv9 : v9 = rdS st g (aa, p9, z, d, f, w)) (hq : rDig (ga st 11) np 6 (a, p9, z, d, f, w) (nI 0) 0 = rDig (ga st 11) np (6 - t) (aa, p9, z, d, f, w) vv t) (ht : t ≤ 6) (hN : 6 - t < N49) (H : Heap) (locs : List Loc) (ls : Array Slot), xH D cy ad Ls (XA ad Ls sz) s v9 H locs → lv_has ls 6 [(0, .ref (ad 1)), (1, .int deed), (4, .int vv), (5, .int (nI t))] → W p l e (xR 5) s m args below meth c H locs 0 0 (MQ below (va_Qi (fun r u => r = bi (rTerm (ga st 11) np deed il (a, p9, z, d, f, w)).1 ∧ u = rdS st g (rTerm (ga st 11) np deed il (a, p9, z, d, f, w)).2) (fun u => xPost D cy ad Ls (XA ad Ls sz) u) (XA ad Ls sz)) args s 0 0 (XA ad Ls sz)) (F0 m 49 ls []) := by
      intro N49
      induction N49 with
      | zero => intro v9 aa vv t hv9 hq ht hN; omega
      | succ N49 ih49 =>
        intro v9 aa vv t hv9 hq ht hN H locs ls h hl
        refine lv_iload hx hb dX5_readTerm_49 (lv_at hl 3 rfl) ?_
        refine lv_bipush (v := nI 6) hx hb dX5_readTerm_51 (by decide) ?_
        refine x_icmpN_ge (tgt := 111) hx hb dX5_readTerm_53 (by decide) (by omega) (by omega) (fun c53 => ?_) (fun c53 => ?_)
        · have hD : rDig (ga st 11) np 6 (a, p9, z, d, f, w) (nI 0) 0 = ((aa, p9, z, d, f, w), vv, t) := by rw [hq, show 6 - t = 0 by omega, rDig]
          refine lv_aload_n hx hb dX5_readTerm_111 rfl (lv_at hl 0 rfl) ?_
          refine gf_X5_21 C h (hL 1 rfl) rfl dX5_readTerm_112 ?_
          refine x_topref (q := ad (300 + 4 * g)) (by rw [hv9, gp_rd, hgp]; rfl) ?_
          refine lv_iload_n hx hb dX5_readTerm_115 rfl (lv_at hl 1 rfl) ?_
          refine lv_iconst (v := nI 0) hx hb dX5_readTerm_116 (by decide) ?_
          refine lv_iload hx hb dX5_readTerm_117 (lv_at hl 2 rfl) ?_
          refine cl_X5_48 C h (show 300 + 4 * g ∈ Ls from hG 0 (by decide)) (kd_f0 hg40) (c_X1_add l D cy ad Ls v9 hg40 hG z (by rw [hv9]; exact gi_rd_z ..) deed (nI 0) vv) (x_room (by omega)) ⟨Nat.zero_le _, Nat.zero_le _⟩ hl.1 (Nat.le_of_ble_eq_true rfl) dX5_readTerm_119 (fun r6 u5 H locs hp h => ?_)
          obtain ⟨er, eu⟩ := hp; rw [hv9, ga_rd_1, ga_rd_2, ga_rd_3, rd_1, rd_2, rd_3, rd_z] at eu; refine x_topi er ?_; clear er r6
          have Eu5 := eu; clear eu
          refine lv_pop hx hb dX5_readTerm_122 rfl ?_
          refine lv_iload hx hb dX5_readTerm_123 (lv_at hl 3 rfl) ?_
          refine x_ifN_le (tgt := 132) hx hb dX5_readTerm_125 (by decide) (by omega) (fun c125 => ?_) (fun c125 => ?_)
          · refine lv_iconst (v := nI 0) hx hb dX5_readTerm_132 (by decide) ?_
            have hF : rTerm (ga st 11) np deed il (a, p9, z, d, f, w) = (false, (aa, p9, z + nI 1, xset 160 d z deed, xset 160 f z (nI 0), xset 160 w z vv)) := by
              simp only [rTerm, rUp, rPt, rUp2, rAdd, rAim, if_true, if_false, Bool.false_eq_true, not_true_eq_false, not_false_eq_true, and_true, true_and, and_false, false_and, eq_self, decide_true, decide_false, Nat.lt_irrefl, Bool.not_eq_true, Bool.and_true, Bool.and_false, Bool.false_and, Bool.true_and, Bool.or_true, Bool.or_false, Bool.true_or, Bool.false_or, reduceCtorEq, c125, hD, c17]
            exact x_zret C hr hlocks (by first | rfl | exact bi_zn _ | decide) h ⟨by rw [hF]; rfl, by rw [hF]; exact Eu5⟩ dX5_readTerm_133
          · refine lv_iconst (v := nI 1) hx hb dX5_readTerm_128 (by decide) ?_
            refine lv_goto (tgt := 133) hx hb dX5_readTerm_129 (by decide) ?_
            have hF : rTerm (ga st 11) np deed il (a, p9, z, d, f, w) = (true, (aa, p9, z + nI 1, xset 160 d z deed, xset 160 f z (nI 0), xset 160 w z vv)) := by
              simp only [rTerm, rUp, rPt, rUp2, rAdd, rAim, if_true, if_false, Bool.false_eq_true, not_true_eq_false, not_false_eq_true, and_true, true_and, and_false, false_and, eq_self, decide_true, decide_false, Nat.lt_irrefl, Bool.not_eq_true, Bool.and_true, Bool.and_false, Bool.false_and, Bool.true_and, Bool.or_true, Bool.or_false, Bool.true_or, Bool.false_or, reduceCtorEq, c125, hD, c17]
            exact x_zret C hr hlocks (by first | rfl | exact bi_zn _ | decide) h ⟨by rw [hF]; rfl, by rw [hF]; exact Eu5⟩ dX5_readTerm_133
        · refine lv_aload_n hx hb dX5_readTerm_56 rfl (lv_at hl 0 rfl) ?_
          refine gf_X5_12 C h (hL 1 rfl) rfl (k2 := 2) rfl dX5_readTerm_57 ?_
          refine lv_aload_n hx hb dX5_readTerm_60 rfl (lv_at hl 0 rfl) ?_
          refine gf_X5_29 C h (hL 1 rfl) rfl dX5_readTerm_61 ?_
          refine x_topi (y := aa) (by rw [hv9]; exact gi_rd_a ..) ?_
          refine cl_X5_40 C h (hL 2 rfl) rfl (c_X3_signAt l D cy ad Ls v9 hL np (by rw [hv9, gi_rd_o (by decide) (by decide) (by omega)]; exact hnp) aa) (x_room (by omega)) ⟨Nat.zero_le _, Nat.zero_le _⟩ hl.1 (Nat.le_of_ble_eq_true rfl) dX5_readTerm_64 (fun r8 u7 H locs hp h => ?_)
          obtain ⟨er8, eu7⟩ := hp; rw [eu7] at h; clear eu7 u7; refine x_topi er8 ?_; clear er8 r8
          refine x_topi (y := sgF (ga st 11) np aa) (by rw [hv9, ga_rd_o (by decide)]) ?_
          refine cl_X5_82 C h (c_X5_isDigit l D cy ad Ls v9 (sgF (ga st 11) np aa)) (x_room (by omega)) ⟨Nat.zero_le _, Nat.zero_le _⟩ hl.1 (Nat.le_of_ble_eq_true rfl) dX5_readTerm_67 (fun r10 u9 H locs hp h => ?_)
          obtain ⟨er10, eu9⟩ := hp; rw [eu9] at h; clear eu9 u9; refine x_topi er10 ?_; clear er10 r10
          refine x_ifb_eq (tgt := 111) hx hb dX5_readTerm_70 (by decide) (fun c70 => ?_) (fun c70 => ?_)
          · have hD : rDig (ga st 11) np 6 (a, p9, z, d, f, w) (nI 0) 0 = ((aa, p9, z, d, f, w), vv, t) := by rw [hq, show 6 - t = (5 - t) + 1 by omega, rDig, if_neg (by rw [c70]; decide)]
            refine lv_aload_n hx hb dX5_readTerm_111 rfl (lv_at hl 0 rfl) ?_
            refine gf_X5_21 C h (hL 1 rfl) rfl dX5_readTerm_112 ?_
            refine x_topref (q := ad (300 + 4 * g)) (by rw [hv9, gp_rd, hgp]; rfl) ?_
            refine lv_iload_n hx hb dX5_readTerm_115 rfl (lv_at hl 1 rfl) ?_
            refine lv_iconst (v := nI 0) hx hb dX5_readTerm_116 (by decide) ?_
            refine lv_iload hx hb dX5_readTerm_117 (lv_at hl 2 rfl) ?_
            refine cl_X5_48 C h (show 300 + 4 * g ∈ Ls from hG 0 (by decide)) (kd_f0 hg40) (c_X1_add l D cy ad Ls v9 hg40 hG z (by rw [hv9]; exact gi_rd_z ..) deed (nI 0) vv) (x_room (by omega)) ⟨Nat.zero_le _, Nat.zero_le _⟩ hl.1 (Nat.le_of_ble_eq_true rfl) dX5_readTerm_119 (fun r12 u11 H locs hp h => ?_)
            obtain ⟨er, eu⟩ := hp; rw [hv9, ga_rd_1, ga_rd_2, ga_rd_3, rd_1, rd_2, rd_3, rd_z] at eu; refine x_topi er ?_; clear er r12
            have Eu11 := eu; clear eu
            refine lv_pop hx hb dX5_readTerm_122 rfl ?_
            refine lv_iload hx hb dX5_readTerm_123 (lv_at hl 3 rfl) ?_
            refine x_ifN_le (tgt := 132) hx hb dX5_readTerm_125 (by decide) (by omega) (fun c125 => ?_) (fun c125 => ?_)
            · refine lv_iconst (v := nI 0) hx hb dX5_readTerm_132 (by decide) ?_
              have hF : rTerm (ga st 11) np deed il (a, p9, z, d, f, w) = (false, (aa, p9, z + nI 1, xset 160 d z deed, xset 160 f z (nI 0), xset 160 w z vv)) := by
                simp only [rTerm, rUp, rPt, rUp2, rAdd, rAim, if_true, if_false, Bool.false_eq_true, not_true_eq_false, not_false_eq_true, and_true, true_and, and_false, false_and, eq_self, decide_true, decide_false, Nat.lt_irrefl, Bool.not_eq_true, Bool.and_true, Bool.and_false, Bool.false_and, Bool.true_and, Bool.or_true, Bool.or_false, Bool.true_or, Bool.false_or, reduceCtorEq, c125, hD, c17]
              exact x_zret C hr hlocks (by first | rfl | exact bi_zn _ | decide) h ⟨by rw [hF]; rfl, by rw [hF]; exact Eu11⟩ dX5_readTerm_133
            · refine lv_iconst (v := nI 1) hx hb dX5_readTerm_128 (by decide) ?_
              refine lv_goto (tgt := 133) hx hb dX5_readTerm_129 (by decide) ?_
              have hF : rTerm (ga st 11) np deed il (a, p9, z, d, f, w) = (true, (aa, p9, z + nI 1, xset 160 d z deed, xset 160 f z (nI 0), xset 160 w z vv)) := by
                simp only [rTerm, rUp, rPt, rUp2, rAdd, rAim, if_true, if_false, Bool.false_eq_true, not_true_eq_false, not_false_eq_true, and_true, true_and, and_false, false_and, eq_self, decide_true, decide_false, Nat.lt_irrefl, Bool.not_eq_true, Bool.and_true, Bool.and_false, Bool.false_and, Bool.true_and, Bool.or_true, Bool.or_false, Bool.true_or, Bool.false_or, reduceCtorEq, c125, hD, c17]
              exact x_zret C hr hlocks (by first | rfl | exact bi_zn _ | decide) h ⟨by rw [hF]; rfl, by rw [hF]; exact Eu11⟩ dX5_readTerm_133
          · refine lv_iload hx hb dX5_readTerm_73 (lv_at hl 2 rfl) ?_
            refine lv_bipush (v := nI 10) hx hb dX5_readTerm_75 (by decide) ?_
            refine lv_imul hx hb dX5_readTerm_77 ?_
            refine lv_aload_n hx hb dX5_readTerm_78 rfl (lv_at hl 0 rfl) ?_
            refine gf_X5_12 C h (hL 1 rfl) rfl (k2 := 2) rfl dX5_readTerm_79 ?_
            refine lv_aload_n hx hb dX5_readTerm_82 rfl (lv_at hl 0 rfl) ?_
            refine gf_X5_29 C h (hL 1 rfl) rfl dX5_readTerm_83 ?_
            refine x_topi (y := aa) (by rw [hv9]; exact gi_rd_a ..) ?_
            refine cl_X5_40 C h (hL 2 rfl) rfl (c_X3_signAt l D cy ad Ls v9 hL np (by rw [hv9, gi_rd_o (by decide) (by decide) (by omega)]; exact hnp) aa) (x_room (by omega)) ⟨Nat.zero_le _, Nat.zero_le _⟩ hl.1 (Nat.le_of_ble_eq_true rfl) dX5_readTerm_86 (fun r14 u13 H locs hp h => ?_)
            obtain ⟨er14, eu13⟩ := hp; rw [eu13] at h; clear eu13 u13; refine x_topi er14 ?_; clear er14 r14
            refine x_topi (y := sgF (ga st 11) np aa) (by rw [hv9, ga_rd_o (by decide)]) ?_
            refine lv_bipush (v := nI 48) hx hb dX5_readTerm_89 (by decide) ?_
            refine lv_isub hx hb dX5_readTerm_91 ?_
            refine lv_iadd hx hb dX5_readTerm_92 ?_
            refine lv_istore (lv' := [(4, .int ((vv * (nI 10)) + ((sgF (ga st 11) np aa) - (nI 48)))), (0, .ref (ad 1)), (1, .int deed), (5, .int (nI t))]) hx hb dX5_readTerm_93 hl (by decide) rfl (fun ls hl => ?_)
            refine lv_iinc (v := nI (t + 1)) (lv' := [(5, .int (nI (t + 1))), (4, .int ((vv * (nI 10)) + ((sgF (ga st 11) np aa) - (nI 48)))), (0, .ref (ad 1)), (1, .int deed)]) hx hb dX5_readTerm_95 hl (k := 3) rfl (nI_add _ _) (by decide) rfl (fun ls hl => ?_)
            refine lv_aload_n hx hb dX5_readTerm_98 rfl (lv_at hl 2 rfl) ?_
            refine lv_dup hx hb dX5_readTerm_99 rfl ?_
            refine gf_X5_29 C h (hL 1 rfl) rfl dX5_readTerm_100 ?_
            refine x_topi (y := aa) (by rw [hv9]; exact gi_rd_a ..) ?_
            refine lv_iconst (v := nI 1) hx hb dX5_readTerm_103 (by decide) ?_
            refine lv_iadd hx hb dX5_readTerm_104 ?_
            refine pf_X5_29 C h (hL 1 rfl) rfl dX5_readTerm_105 (fun H locs u15 eu15 h => ?_)
            rw [hv9, rd_a] at eu15
            refine lv_goto (tgt := 49) hx hb dX5_readTerm_108 (by decide) ?_
            exact ih49 u15 (aa + nI 1) _ (t + 1) eu15 (by rw [hq, show 6 - t = (6 - (t + 1)) + 1 by omega, rDig, if_pos c70]; rfl) (by omega) (by omega) H locs ls h (lv_sub hl [2, 3, 1, 0] rfl)
    exact L49 7 v a (nI 0) 0 hv rfl (by omega) (by omega) H locs ls h (lv_sub hl [3, 4, 1, 0] rfl)
  · refine lv_aload_n hx hb dX5_readTerm_20 rfl (lv_at hl 1 rfl) ?_
    refine lv_dup hx hb dX5_readTerm_21 rfl ?_
    refine gf_X5_29 C h (hL 1 rfl) rfl dX5_readTerm_22 ?_
    refine x_topi (y := a) (by rw [hv]; exact gi_rd_a ..) ?_
    refine lv_iconst (v := nI 1) hx hb dX5_readTerm_25 (by decide) ?_
    refine lv_iadd hx hb dX5_readTerm_26 ?_
    refine pf_X5_29 C h (hL 1 rfl) rfl dX5_readTerm_27 (fun H locs u16 eu16 h => ?_)
    rw [hv, rd_a] at eu16
    refine lv_aload_n hx hb dX5_readTerm_30 rfl (lv_at hl 1 rfl) ?_
    refine gf_X5_21 C h (hL 1 rfl) rfl dX5_readTerm_31 ?_
    refine x_topref (q := ad (300 + 4 * g)) (by rw [eu16, gp_rd, hgp]; rfl) ?_
    refine lv_iload_n hx hb dX5_readTerm_34 rfl (lv_at hl 2 rfl) ?_
    refine lv_iload_n hx hb dX5_readTerm_35 rfl (lv_at hl 0 rfl) ?_
    refine lv_iconst (v := nI 0) hx hb dX5_readTerm_36 (by decide) ?_
    refine cl_X5_48 C h (show 300 + 4 * g ∈ Ls from hG 0 (by decide)) (kd_f0 hg40) (c_X1_add l D cy ad Ls u16 hg40 hG z (by rw [eu16]; exact gi_rd_z ..) deed (sgF (ga st 11) np a) (nI 0)) (x_room (by omega)) ⟨Nat.zero_le _, Nat.zero_le _⟩ hl.1 (Nat.le_of_ble_eq_true rfl) dX5_readTerm_37 (fun r18 u17 H locs hp h => ?_)
    obtain ⟨er, eu⟩ := hp; rw [eu16, ga_rd_1, ga_rd_2, ga_rd_3, rd_1, rd_2, rd_3, rd_z] at eu; refine x_topi er ?_; clear er r18
    have Eu17 := eu; clear eu
    refine lv_pop hx hb dX5_readTerm_40 rfl ?_
    refine lv_iconst (v := nI 1) hx hb dX5_readTerm_41 (by decide) ?_
    have hF : rTerm (ga st 11) np deed il (a, p9, z, d, f, w) = (true, (a + (nI 1), p9, z + nI 1, xset 160 d z deed, xset 160 f z (sgF (ga st 11) np a), xset 160 w z (nI 0))) := by
      simp only [rTerm, rUp, rPt, rUp2, rAdd, rAim, if_true, if_false, Bool.false_eq_true, not_true_eq_false, not_false_eq_true, and_true, true_and, and_false, false_and, eq_self, decide_true, decide_false, Nat.lt_irrefl, Bool.not_eq_true, Bool.and_true, Bool.and_false, Bool.false_and, Bool.true_and, Bool.or_true, Bool.or_false, Bool.true_or, Bool.false_or, reduceCtorEq, c17]
    exact x_zret C hr hlocks (by first | rfl | exact bi_zn _ | decide) h ⟨by rw [hF]; rfl, by rw [hF]; exact Eu17⟩ dX5_readTerm_42

set_option maxHeartbeats 4000000 in
set_option maxRecDepth 100000 in
theorem c_X5_readSum (l : Launch) (D : va_G) (cy : Nat → ClassId) (ad : Nat → Nat) (Ls : List Nat) (st : XS) (hL : ∀ k, xC k = true → k ∈ Ls) {g : Nat} (hg40 : g < 40) (hG : ∀ j, j < 4 → 300 + 4 * g + j ∈ Ls) (hgp : gp st 1 1 = some (300 + 4 * g)) (np : Nat) (hnp : gi st 1 2 = nI np) (a p9 z : Int32) (d f w : Nat → Int32) (il : Bool) : xMi l yX5_readSum cX5_readSum 4 (some .boolean) 6 D cy ad Ls (rdS st g (a, p9, z, d, f, w)) [.ref (ad 1), .int (bi il)] (fun r u => r = bi (rSum (ga st 11) np il (a, p9, z, d, f, w)).1 ∧ u = rdS st g (rSum (ga st 11) np il (a, p9, z, d, f, w)).2) := by
  intro sz
  refine x_of sz (by decide +kernel) (Nat.le_of_ble_eq_true rfl) ?_
  intro p e s m args below meth c ls hx hb hr hlocks C hsz h hl
  have hl : lv_has ls 4 [(0, .ref (ad 1)), (1, .int (bi il))] := hl
  obtain ⟨H, eH⟩ : ∃ z, z = s.heap := ⟨_, rfl⟩
  obtain ⟨locs, eL⟩ : ∃ z : List Loc, z = [] := ⟨_, rfl⟩
  rw [← eH, ← eL] at h
  rw [← eH, ← eL]
  clear eH eL
  obtain ⟨v, hv⟩ : ∃ v, v = rdS st g (a, p9, z, d, f, w) := ⟨_, rfl⟩
  rw [← hv] at h
  refine lv_aload_n hx hb dX5_readSum_0 rfl (lv_at hl 0 rfl) ?_
  refine lv_iconst (v := nI 2) hx hb dX5_readSum_1 (by decide) ?_
  refine lv_iload_n hx hb dX5_readSum_2 rfl (lv_at hl 1 rfl) ?_
  rw [hv] at h
  refine cl_X5_79 C h (hL 1 rfl) rfl (c_X5_readTerm l D cy ad Ls st hL hg40 hG hgp np hnp a p9 z d f w (nI 2) il) (x_room (by omega)) ⟨Nat.zero_le _, Nat.zero_le _⟩ hl.1 (Nat.le_of_ble_eq_true rfl) dX5_readSum_3 (fun r2 u1 H locs hp h => ?_)
  obtain ⟨q3, a3, p3_, z3, d3_, f3, w3, e3_⟩ : ∃ y0 y1 y2 y3 y4 y5 y6, rTerm (ga st 11) np (nI 2) il (a, p9, z, d, f, w) = (y0, y1, y2, y3, y4, y5, y6) := ⟨_, _, _, _, _, _, _, rfl⟩
  obtain ⟨er, eu⟩ := hp; rw [e3_] at er eu; replace er : r2 = bi q3 := er; replace eu : u1 = rdS st g (a3, p3_, z3, d3_, f3, w3) := eu
  refine x_topi er ?_; clear er r2
  have Eu1 := eu; clear eu
  refine x_ifb_ne (tgt := 11) hx hb dX5_readSum_6 (by decide) (fun c6 => ?_) (fun c6 => ?_)
  · refine lv_iconst (v := nI 0) hx hb dX5_readSum_11 (by decide) ?_
    refine lv_istore_n (lv' := [(2, .int (nI 0)), (0, .ref (ad 1)), (1, .int (bi il))]) hx hb dX5_readSum_12 rfl hl (by decide) rfl (fun ls hl => ?_)
    have L13 : ∀ (N13 : Nat) (v9 : XS) (aa : Int32) (pp : Int32) (zz : Int32) (dd : Nat → Int32) (ff : Nat → Int32) (ww : Nat → Int32) (t : Nat) (hv9 : v9 = rdS st g (aa, pp, zz, dd, ff, ww)) (hq : rSum (ga st 11) np il (a, p9, z, d, f, w) = rSumL (ga st 11) np il (160 - t) (aa, pp, zz, dd, ff, ww)) (ht : t ≤ 160) (hN : 160 - t < N13) (H : Heap) (locs : List Loc) (ls : Array Slot), xH D cy ad Ls (XA ad Ls sz) s v9 H locs → lv_has ls 4 [(0, .ref (ad 1)), (1, .int (bi il)), (2, .int (nI t))] → W p l e (xR 6) s m args below meth c H locs 0 0 (MQ below (va_Qi (fun r u => r = bi (rSum (ga st 11) np il (a, p9, z, d, f, w)).1 ∧ u = rdS st g (rSum (ga st 11) np il (a, p9, z, d, f, w)).2) (fun u => xPost D cy ad Ls (XA ad Ls sz) u) (XA ad Ls sz)) args s 0 0 (XA ad Ls sz)) (F0 m 13 ls []) := by
      intro N13
      induction N13 with
      | zero => intro v9 aa pp zz dd ff ww t hv9 hq ht hN; omega
      | succ N13 ih13 =>
        intro v9 aa pp zz dd ff ww t hv9 hq ht hN H locs ls h hl
        refine lv_iload_n hx hb dX5_readSum_13 rfl (lv_at hl 2 rfl) ?_
        refine lv_sipush (v := nI 160) hx hb dX5_readSum_14 (by decide) ?_
        refine x_icmpN_ge (tgt := 67) hx hb dX5_readSum_17 (by decide) (by omega) (by omega) (fun c17 => ?_) (fun c17 => ?_)
        · refine lv_iconst (v := nI 1) hx hb dX5_readSum_67 (by decide) ?_
          have hF : rSum (ga st 11) np il (a, p9, z, d, f, w) = (true, (aa, pp, zz, dd, ff, ww)) := by rw [hq, show 160 - t = 0 by omega, rSumL]
          exact x_zret C hr hlocks (by first | rfl | exact bi_zn _ | decide) h ⟨by rw [hF]; rfl, by rw [hF]; exact hv9⟩ dX5_readSum_68
        · refine lv_aload_n hx hb dX5_readSum_20 rfl (lv_at hl 0 rfl) ?_
          refine lv_bipush (v := nI 43) hx hb dX5_readSum_21 (by decide) ?_
          rw [hv9] at h
          refine cl_X5_67 C h (hL 1 rfl) rfl (c_X5_skip l D cy ad Ls st hL hg40 hG hgp np hnp aa pp zz dd ff ww (nI 43)) (x_room (by omega)) ⟨Nat.zero_le _, Nat.zero_le _⟩ hl.1 (Nat.le_of_ble_eq_true rfl) dX5_readSum_23 (fun r5 u4 H locs hp h => ?_)
          obtain ⟨q6, a6, p6_, z6, d6_, f6, w6, e6_⟩ : ∃ y0 y1 y2 y3 y4 y5 y6, rSkip (ga st 11) np (nI 43) (aa, pp, zz, dd, ff, ww) = (y0, y1, y2, y3, y4, y5, y6) := ⟨_, _, _, _, _, _, _, rfl⟩
          obtain ⟨er, eu⟩ := hp; rw [e6_] at er eu; replace er : r5 = bi q6 := er; replace eu : u4 = rdS st g (a6, p6_, z6, d6_, f6, w6) := eu
          refine x_topi er ?_; clear er r5
          have Eu4 := eu; clear eu
          refine lv_istore_n (lv' := [(3, .int (bi q6)), (0, .ref (ad 1)), (1, .int (bi il)), (2, .int (nI t))]) hx hb dX5_readSum_26 rfl hl (by decide) rfl (fun ls hl => ?_)
          refine lv_iload_n hx hb dX5_readSum_27 rfl (lv_at hl 0 rfl) ?_
          refine x_ifb_ne (tgt := 42) hx hb dX5_readSum_28 (by decide) (fun c28 => ?_) (fun c28 => ?_)
          · refine lv_aload_n hx hb dX5_readSum_42 rfl (lv_at hl 1 rfl) ?_
            refine lv_iload_n hx hb dX5_readSum_43 rfl (lv_at hl 0 rfl) ?_
            refine x_ifb_eq (tgt := 51) hx hb dX5_readSum_44 (by decide) (fun z9 => absurd (c28.symm.trans z9) (by decide)) (fun _ => ?_)
            refine lv_iconst (v := nI 2) hx hb dX5_readSum_47 (by decide) ?_
            refine lv_goto (tgt := 52) hx hb dX5_readSum_48 (by decide) ?_
            refine lv_iload_n hx hb dX5_readSum_52 rfl (lv_at hl 2 rfl) ?_
            rw [Eu4] at h
            refine cl_X5_79 C h (hL 1 rfl) rfl (c_X5_readTerm l D cy ad Ls st hL hg40 hG hgp np hnp a6 p6_ z6 d6_ f6 w6 (nI 2) il) (x_room (by omega)) ⟨Nat.zero_le _, Nat.zero_le _⟩ hl.1 (Nat.le_of_ble_eq_true rfl) dX5_readSum_53 (fun r8 u7 H locs hp h => ?_)
            obtain ⟨q9, a9, p9_, z9, d9_, f9, w9, e9_⟩ : ∃ y0 y1 y2 y3 y4 y5 y6, rTerm (ga st 11) np (nI 2) il (a6, p6_, z6, d6_, f6, w6) = (y0, y1, y2, y3, y4, y5, y6) := ⟨_, _, _, _, _, _, _, rfl⟩
            obtain ⟨er, eu⟩ := hp; rw [e9_] at er eu; replace er : r8 = bi q9 := er; replace eu : u7 = rdS st g (a9, p9_, z9, d9_, f9, w9) := eu
            refine x_topi er ?_; clear er r8
            have Eu7 := eu; clear eu
            refine x_ifb_ne (tgt := 61) hx hb dX5_readSum_56 (by decide) (fun c56 => ?_) (fun c56 => ?_)
            · refine lv_iinc (v := nI (t + 1)) (lv' := [(2, .int (nI (t + 1))), (3, .int (bi q6)), (0, .ref (ad 1)), (1, .int (bi il))]) hx hb dX5_readSum_61 hl (k := 3) rfl (nI_add _ _) (by decide) rfl (fun ls hl => ?_)
              refine lv_goto (tgt := 13) hx hb dX5_readSum_64 (by decide) ?_
              exact ih13 u7 a9 p9_ z9 d9_ f9 w9 (t + 1) Eu7 (by rw [hq, show 160 - t = (160 - (t + 1)) + 1 by omega, rSumL]; simp only [if_true, if_false, Bool.false_eq_true, eq_self, reduceCtorEq, c17, c28, c56, e6_, e9_]) (by omega) (by omega) H locs ls h (lv_sub hl [2, 3, 0] rfl)
            · refine lv_iconst (v := nI 0) hx hb dX5_readSum_59 (by decide) ?_
              have hF : rSum (ga st 11) np il (a, p9, z, d, f, w) = (false, (a9, p9_, z9, d9_, f9, w9)) := by
                rw [hq, show 160 - t = (159 - t) + 1 by omega, rSumL]
                simp only [if_true, if_false, Bool.false_eq_true, eq_self, reduceCtorEq, c17, c28, c56, e6_, e9_]
              exact x_zret C hr hlocks (by first | rfl | exact bi_zn _ | decide) h ⟨by rw [hF]; rfl, by rw [hF]; exact Eu7⟩ dX5_readSum_60
          · refine lv_aload_n hx hb dX5_readSum_31 rfl (lv_at hl 1 rfl) ?_
            refine lv_bipush (v := nI 45) hx hb dX5_readSum_32 (by decide) ?_
            rw [Eu4] at h
            refine cl_X5_67 C h (hL 1 rfl) rfl (c_X5_skip l D cy ad Ls st hL hg40 hG hgp np hnp a6 p6_ z6 d6_ f6 w6 (nI 45)) (x_room (by omega)) ⟨Nat.zero_le _, Nat.zero_le _⟩ hl.1 (Nat.le_of_ble_eq_true rfl) dX5_readSum_34 (fun r11 u10 H locs hp h => ?_)
            obtain ⟨q12, a12, p12_, z12, d12_, f12, w12, e12_⟩ : ∃ y0 y1 y2 y3 y4 y5 y6, rSkip (ga st 11) np (nI 45) (a6, p6_, z6, d6_, f6, w6) = (y0, y1, y2, y3, y4, y5, y6) := ⟨_, _, _, _, _, _, _, rfl⟩
            obtain ⟨er, eu⟩ := hp; rw [e12_] at er eu; replace er : r11 = bi q12 := er; replace eu : u10 = rdS st g (a12, p12_, z12, d12_, f12, w12) := eu
            refine x_topi er ?_; clear er r11
            have Eu10 := eu; clear eu
            refine x_ifb_ne (tgt := 42) hx hb dX5_readSum_37 (by decide) (fun c37 => ?_) (fun c37 => ?_)
            · refine lv_aload_n hx hb dX5_readSum_42 rfl (lv_at hl 1 rfl) ?_
              refine lv_iload_n hx hb dX5_readSum_43 rfl (lv_at hl 0 rfl) ?_
              refine x_ifb_eq (tgt := 51) hx hb dX5_readSum_44 (by decide) (fun _ => ?_) (fun z9 => absurd (c28.symm.trans z9) (by decide))
              refine lv_iconst (v := nI 3) hx hb dX5_readSum_51 (by decide) ?_
              refine lv_iload_n hx hb dX5_readSum_52 rfl (lv_at hl 2 rfl) ?_
              rw [Eu10] at h
              refine cl_X5_79 C h (hL 1 rfl) rfl (c_X5_readTerm l D cy ad Ls st hL hg40 hG hgp np hnp a12 p12_ z12 d12_ f12 w12 (nI 3) il) (x_room (by omega)) ⟨Nat.zero_le _, Nat.zero_le _⟩ hl.1 (Nat.le_of_ble_eq_true rfl) dX5_readSum_53 (fun r14 u13 H locs hp h => ?_)
              obtain ⟨q15, a15, p15_, z15, d15_, f15, w15, e15_⟩ : ∃ y0 y1 y2 y3 y4 y5 y6, rTerm (ga st 11) np (nI 3) il (a12, p12_, z12, d12_, f12, w12) = (y0, y1, y2, y3, y4, y5, y6) := ⟨_, _, _, _, _, _, _, rfl⟩
              obtain ⟨er, eu⟩ := hp; rw [e15_] at er eu; replace er : r14 = bi q15 := er; replace eu : u13 = rdS st g (a15, p15_, z15, d15_, f15, w15) := eu
              refine x_topi er ?_; clear er r14
              have Eu13 := eu; clear eu
              refine x_ifb_ne (tgt := 61) hx hb dX5_readSum_56 (by decide) (fun c56 => ?_) (fun c56 => ?_)
              · refine lv_iinc (v := nI (t + 1)) (lv' := [(2, .int (nI (t + 1))), (3, .int (bi q6)), (0, .ref (ad 1)), (1, .int (bi il))]) hx hb dX5_readSum_61 hl (k := 3) rfl (nI_add _ _) (by decide) rfl (fun ls hl => ?_)
                refine lv_goto (tgt := 13) hx hb dX5_readSum_64 (by decide) ?_
                exact ih13 u13 a15 p15_ z15 d15_ f15 w15 (t + 1) Eu13 (by rw [hq, show 160 - t = (160 - (t + 1)) + 1 by omega, rSumL]; simp only [if_true, if_false, Bool.false_eq_true, eq_self, reduceCtorEq, c17, c28, c37, c56, e6_, e12_, e15_]) (by omega) (by omega) H locs ls h (lv_sub hl [2, 3, 0] rfl)
              · refine lv_iconst (v := nI 0) hx hb dX5_readSum_59 (by decide) ?_
                have hF : rSum (ga st 11) np il (a, p9, z, d, f, w) = (false, (a15, p15_, z15, d15_, f15, w15)) := by
                  rw [hq, show 160 - t = (159 - t) + 1 by omega, rSumL]
                  simp only [if_true, if_false, Bool.false_eq_true, eq_self, reduceCtorEq, c17, c28, c37, c56, e6_, e12_, e15_]
                exact x_zret C hr hlocks (by first | rfl | exact bi_zn _ | decide) h ⟨by rw [hF]; rfl, by rw [hF]; exact Eu13⟩ dX5_readSum_60
            · refine lv_iconst (v := nI 1) hx hb dX5_readSum_40 (by decide) ?_
              have hF : rSum (ga st 11) np il (a, p9, z, d, f, w) = (true, (a12, p12_, z12, d12_, f12, w12)) := by
                rw [hq, show 160 - t = (159 - t) + 1 by omega, rSumL]
                simp only [if_true, if_false, Bool.false_eq_true, eq_self, reduceCtorEq, c17, c28, c37, e6_, e12_]
              exact x_zret C hr hlocks (by first | rfl | exact bi_zn _ | decide) h ⟨by rw [hF]; rfl, by rw [hF]; exact Eu10⟩ dX5_readSum_41
    exact L13 161 u1 a3 p3_ z3 d3_ f3 w3 0 Eu1 (by rw [rSum]; simp only [if_true, if_false, Bool.false_eq_true, eq_self, reduceCtorEq, c6, e3_]) (by omega) (by omega) H locs ls h (lv_sub hl [1, 2, 0] rfl)
  · refine lv_iconst (v := nI 0) hx hb dX5_readSum_9 (by decide) ?_
    have hF : rSum (ga st 11) np il (a, p9, z, d, f, w) = (false, (a3, p3_, z3, d3_, f3, w3)) := by
      simp only [rSum, rUp, rPt, rUp2, rAdd, rAim, if_true, if_false, Bool.false_eq_true, not_true_eq_false, not_false_eq_true, and_true, true_and, and_false, false_and, eq_self, decide_true, decide_false, Nat.lt_irrefl, Bool.not_eq_true, Bool.and_true, Bool.and_false, Bool.false_and, Bool.true_and, Bool.or_true, Bool.or_false, Bool.true_or, Bool.false_or, reduceCtorEq, c6, e3_]
    exact x_zret C hr hlocks (by first | rfl | exact bi_zn _ | decide) h ⟨by rw [hF]; rfl, by rw [hF]; exact Eu1⟩ dX5_readSum_10
