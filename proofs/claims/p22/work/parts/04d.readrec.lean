/-! ===== the recursion: readParts, readLoop, readChoice, by the levels that are left ===== -/
theorem k123_0 : (nI 123 = 0) = False := by decide
theorem k123_124 : (nI 123 = nI 124) = False := by decide
theorem k123_125 : (nI 123 = nI 125) = False := by decide
theorem k63_42 : (nI 63 = nI 42) = False := by decide
def PTc (l : Launch) (D : va_G) (cy : Nat → ClassId) (ad : Nat → Nat) (Ls : List Nat) (st : XS) (g np k dp : Nat) : Prop := ∀ (a p9 z : Int32) (d f w : Nat → Int32) (il ol : Bool), xMi l yX5_readParts cX5_readParts 7 (some .boolean) (10 + 3 * k) D cy ad Ls (rdS st g (a, p9, z, d, f, w)) [.ref (ad 1), .int (nI dp), .int (bi il), .int (bi ol)] (fun r u => r = bi (rParts (ga st 11) np k il ol (a, p9, z, d, f, w)).1 ∧ u = rdS st g (rParts (ga st 11) np k il ol (a, p9, z, d, f, w)).2)
def LPc (l : Launch) (D : va_G) (cy : Nat → ClassId) (ad : Nat → Nat) (Ls : List Nat) (st : XS) (g np k dp : Nat) : Prop := ∀ (a p9 z : Int32) (d f w : Nat → Int32), xMi l yX5_readLoop cX5_readLoop 3 (some .boolean) (11 + 3 * k) D cy ad Ls (rdS st g (a, p9, z, d, f, w)) [.ref (ad 1), .int (nI dp)] (fun r u => r = bi (rLoop (ga st 11) np (rParts (ga st 11) np k true true) (a, p9, z, d, f, w)).1 ∧ u = rdS st g (rLoop (ga st 11) np (rParts (ga st 11) np k true true) (a, p9, z, d, f, w)).2)
def CHc (l : Launch) (D : va_G) (cy : Nat → ClassId) (ad : Nat → Nat) (Ls : List Nat) (st : XS) (g np k dp : Nat) : Prop := ∀ (a p9 z : Int32) (d f w : Nat → Int32) (il : Bool), xMi l yX5_readChoice cX5_readChoice 6 (some .boolean) (11 + 3 * k) D cy ad Ls (rdS st g (a, p9, z, d, f, w)) [.ref (ad 1), .int (nI dp), .int (bi il)] (fun r u => r = bi (rChoice (ga st 11) np il (rParts (ga st 11) np k il false) (a, p9, z, d, f, w)).1 ∧ u = rdS st g (rChoice (ga st 11) np il (rParts (ga st 11) np k il false) (a, p9, z, d, f, w)).2)

set_option maxHeartbeats 4000000 in
set_option maxRecDepth 100000 in
theorem c_X5_readLoop (l : Launch) (D : va_G) (cy : Nat → ClassId) (ad : Nat → Nat) (Ls : List Nat) (st : XS) (hL : ∀ k, xC k = true → k ∈ Ls) {g : Nat} (hg40 : g < 40) (hG : ∀ j, j < 4 → 300 + 4 * g + j ∈ Ls) (hgp : gp st 1 1 = some (300 + 4 * g)) (np : Nat) (hnp : gi st 1 2 = nI np) (a p9 z : Int32) (d f w : Nat → Int32) (k dp : Nat) (hdp : dp ≤ 5) (hPT : PTc l D cy ad Ls st g np k (dp + 1)) : xMi l yX5_readLoop cX5_readLoop 3 (some .boolean) (11 + 3 * k) D cy ad Ls (rdS st g (a, p9, z, d, f, w)) [.ref (ad 1), .int (nI dp)] (fun r u => r = bi (rLoop (ga st 11) np (rParts (ga st 11) np k true true) (a, p9, z, d, f, w)).1 ∧ u = rdS st g (rLoop (ga st 11) np (rParts (ga st 11) np k true true) (a, p9, z, d, f, w)).2) := by
  intro sz
  refine x_of sz (by decide +kernel) (Nat.le_of_ble_eq_true rfl) ?_
  intro p e s m args below meth c ls hx hb hr hlocks C hsz h hl
  have hl : lv_has ls 3 [(0, .ref (ad 1)), (1, .int (nI dp))] := hl
  obtain ⟨H, eH⟩ : ∃ z, z = s.heap := ⟨_, rfl⟩
  obtain ⟨locs, eL⟩ : ∃ z : List Loc, z = [] := ⟨_, rfl⟩
  rw [← eH, ← eL] at h
  rw [← eH, ← eL]
  clear eH eL
  obtain ⟨v, hv⟩ : ∃ v, v = rdS st g (a, p9, z, d, f, w) := ⟨_, rfl⟩
  rw [← hv] at h
  refine lv_aload_n hx hb dX5_readLoop_0 rfl (lv_at hl 0 rfl) ?_
  refine lv_dup hx hb dX5_readLoop_1 rfl ?_
  refine gf_X5_29 C h (hL 1 rfl) rfl dX5_readLoop_2 ?_
  refine x_topi (y := a) (by rw [hv]; exact gi_rd_a ..) ?_
  refine lv_iconst (v := nI 1) hx hb dX5_readLoop_5 (by decide) ?_
  refine lv_iadd hx hb dX5_readLoop_6 ?_
  refine pf_X5_29 C h (hL 1 rfl) rfl dX5_readLoop_7 (fun H locs u1 eu1 h => ?_)
  rw [hv, rd_a] at eu1
  refine lv_aload_n hx hb dX5_readLoop_10 rfl (lv_at hl 0 rfl) ?_
  refine lv_dup hx hb dX5_readLoop_11 rfl ?_
  refine gf_X5_32 C h (hL 1 rfl) rfl dX5_readLoop_12 ?_
  refine x_topi (y := p9) (by rw [eu1]; exact gi_rd_p ..) ?_
  refine lv_iconst (v := nI 1) hx hb dX5_readLoop_15 (by decide) ?_
  refine lv_iadd hx hb dX5_readLoop_16 ?_
  refine pf_X5_32 C h (hL 1 rfl) rfl dX5_readLoop_17 (fun H locs u2 eu2 h => ?_)
  rw [eu1, rd_p] at eu2
  refine lv_aload_n hx hb dX5_readLoop_20 rfl (lv_at hl 0 rfl) ?_
  refine gf_X5_21 C h (hL 1 rfl) rfl dX5_readLoop_21 ?_
  refine x_topref (q := ad (300 + 4 * g)) (by rw [eu2, gp_rd, hgp]; rfl) ?_
  refine lv_bipush (v := nI 7) hx hb dX5_readLoop_24 (by decide) ?_
  refine lv_iconst (v := nI 0) hx hb dX5_readLoop_26 (by decide) ?_
  refine lv_iconst (v := nI 0) hx hb dX5_readLoop_27 (by decide) ?_
  refine cl_X5_48 C h (show 300 + 4 * g ∈ Ls from hG 0 (by decide)) (kd_f0 hg40) (c_X1_add l D cy ad Ls u2 hg40 hG z (by rw [eu2]; exact gi_rd_z ..) (nI 7) (nI 0) (nI 0)) (x_room (by omega)) ⟨Nat.zero_le _, Nat.zero_le _⟩ hl.1 (Nat.le_of_ble_eq_true rfl) dX5_readLoop_28 (fun r4 u3 H locs hp h => ?_)
  obtain ⟨er, eu⟩ := hp; rw [eu2, ga_rd_1, ga_rd_2, ga_rd_3, rd_1, rd_2, rd_3, rd_z] at eu; refine x_topi er ?_; clear er r4
  have Eu3 := eu; clear eu
  refine lv_istore_n (lv' := [(2, .int z), (0, .ref (ad 1)), (1, .int (nI dp))]) hx hb dX5_readLoop_31 rfl hl (by decide) rfl (fun ls hl => ?_)
  refine lv_aload_n hx hb dX5_readLoop_32 rfl (lv_at hl 1 rfl) ?_
  refine lv_iload_n hx hb dX5_readLoop_33 rfl (lv_at hl 2 rfl) ?_
  refine lv_iconst (v := nI 1) hx hb dX5_readLoop_34 (by decide) ?_
  refine x_addN hx hb dX5_readLoop_35 ?_
  refine lv_iconst (v := nI 1) hx hb dX5_readLoop_36 (by decide) ?_
  refine lv_iconst (v := nI 1) hx hb dX5_readLoop_37 (by decide) ?_
  rw [Eu3] at h
  refine cl_X5_35 C h (hL 1 rfl) rfl (hPT (a + (nI 1)) (p9 + (nI 1)) (z + nI 1) (xset 160 d z (nI 7)) (xset 160 f z (nI 0)) (xset 160 w z (nI 0)) true true) (x_room (by omega)) ⟨Nat.zero_le _, Nat.zero_le _⟩ hl.1 (Nat.le_of_ble_eq_true rfl) dX5_readLoop_38 (fun r6 u5 H locs hp h => ?_)
  obtain ⟨q7, a7, p7_, z7, d7_, f7, w7, e7_⟩ : ∃ y0 y1 y2 y3 y4 y5 y6, rParts (ga st 11) np k true true (a + (nI 1), p9 + (nI 1), z + nI 1, xset 160 d z (nI 7), xset 160 f z (nI 0), xset 160 w z (nI 0)) = (y0, y1, y2, y3, y4, y5, y6) := ⟨_, _, _, _, _, _, _, rfl⟩
  obtain ⟨er, eu⟩ := hp; rw [e7_] at er eu; replace er : r6 = bi q7 := er; replace eu : u5 = rdS st g (a7, p7_, z7, d7_, f7, w7) := eu
  refine x_topi er ?_; clear er r6
  have Eu5 := eu; clear eu
  refine x_ifb_eq (tgt := 51) hx hb dX5_readLoop_41 (by decide) (fun c41 => ?_) (fun c41 => ?_)
  · refine lv_iconst (v := nI 0) hx hb dX5_readLoop_51 (by decide) ?_
    have hF : rLoop (ga st 11) np (rParts (ga st 11) np k true true) (a, p9, z, d, f, w) = (false, (a7, p7_, z7, d7_, f7, w7)) := by
      simp only [rLoop, rUp, rPt, rUp2, rAdd, rAim, if_true, if_false, Bool.false_eq_true, not_true_eq_false, not_false_eq_true, and_true, true_and, and_false, false_and, eq_self, decide_true, decide_false, Nat.lt_irrefl, Bool.not_eq_true, Bool.and_true, Bool.and_false, Bool.false_and, Bool.true_and, Bool.or_true, Bool.or_false, Bool.true_or, Bool.false_or, reduceCtorEq, c41, e7_]
    exact x_zret C hr hlocks (by first | rfl | exact bi_zn _ | decide) h ⟨by rw [hF]; rfl, by rw [hF]; exact Eu5⟩ dX5_readLoop_52
  · refine lv_aload_n hx hb dX5_readLoop_44 rfl (lv_at hl 1 rfl) ?_
    rw [Eu5] at h
    refine cl_X5_44 C h (hL 1 rfl) rfl (c_X5_endsLoop l D cy ad Ls st hL hg40 hG hgp np hnp a7 p7_ z7 d7_ f7 w7) (x_room (by omega)) ⟨Nat.zero_le _, Nat.zero_le _⟩ hl.1 (Nat.le_of_ble_eq_true rfl) dX5_readLoop_45 (fun r9 u8 H locs hp h => ?_)
    obtain ⟨er, eu⟩ := hp; refine x_topi er ?_; clear er r9; have Eu8 := eu; clear eu
    refine x_ifb_ne (tgt := 53) hx hb dX5_readLoop_48 (by decide) (fun c48 => ?_) (fun c48 => ?_)
    · refine lv_aload_n hx hb dX5_readLoop_53 rfl (lv_at hl 1 rfl) ?_
      refine lv_dup hx hb dX5_readLoop_54 rfl ?_
      refine gf_X5_29 C h (hL 1 rfl) rfl dX5_readLoop_55 ?_
      refine x_topi (y := a7) (by rw [Eu8]; exact gi_rd_a ..) ?_
      refine lv_iconst (v := nI 2) hx hb dX5_readLoop_58 (by decide) ?_
      refine lv_iadd hx hb dX5_readLoop_59 ?_
      refine pf_X5_29 C h (hL 1 rfl) rfl dX5_readLoop_60 (fun H locs u11 eu11 h => ?_)
      rw [Eu8, rd_a] at eu11
      refine lv_aload_n hx hb dX5_readLoop_63 rfl (lv_at hl 1 rfl) ?_
      refine gf_X5_21 C h (hL 1 rfl) rfl dX5_readLoop_64 ?_
      refine x_topref (q := ad (300 + 4 * g)) (by rw [eu11, gp_rd, hgp]; rfl) ?_
      refine lv_bipush (v := nI 8) hx hb dX5_readLoop_67 (by decide) ?_
      refine lv_iconst (v := nI 0) hx hb dX5_readLoop_69 (by decide) ?_
      refine lv_iload_n hx hb dX5_readLoop_70 rfl (lv_at hl 0 rfl) ?_
      refine lv_iconst (v := nI 1) hx hb dX5_readLoop_71 (by decide) ?_
      refine lv_iadd hx hb dX5_readLoop_72 ?_
      refine cl_X5_48 C h (show 300 + 4 * g ∈ Ls from hG 0 (by decide)) (kd_f0 hg40) (c_X1_add l D cy ad Ls u11 hg40 hG z7 (by rw [eu11]; exact gi_rd_z ..) (nI 8) (nI 0) (z + (nI 1))) (x_room (by omega)) ⟨Nat.zero_le _, Nat.zero_le _⟩ hl.1 (Nat.le_of_ble_eq_true rfl) dX5_readLoop_73 (fun r13 u12 H locs hp h => ?_)
      obtain ⟨er, eu⟩ := hp; rw [eu11, ga_rd_1, ga_rd_2, ga_rd_3, rd_1, rd_2, rd_3, rd_z] at eu; refine x_topi er ?_; clear er r13
      have Eu12 := eu; clear eu
      refine lv_pop hx hb dX5_readLoop_76 rfl ?_
      refine lv_iconst (v := nI 1) hx hb dX5_readLoop_77 (by decide) ?_
      have hF : rLoop (ga st 11) np (rParts (ga st 11) np k true true) (a, p9, z, d, f, w) = (true, (a7 + (nI 2), p7_, z7 + nI 1, xset 160 d7_ z7 (nI 8), xset 160 f7 z7 (nI 0), xset 160 w7 z7 (z + (nI 1)))) := by
        simp only [rLoop, rUp, rPt, rUp2, rAdd, rAim, if_true, if_false, Bool.false_eq_true, not_true_eq_false, not_false_eq_true, and_true, true_and, and_false, false_and, eq_self, decide_true, decide_false, Nat.lt_irrefl, Bool.not_eq_true, Bool.and_true, Bool.and_false, Bool.false_and, Bool.true_and, Bool.or_true, Bool.or_false, Bool.true_or, Bool.false_or, reduceCtorEq, c41, c48, e7_]
      exact x_zret C hr hlocks (by first | rfl | exact bi_zn _ | decide) h ⟨by rw [hF]; rfl, by rw [hF]; exact Eu12⟩ dX5_readLoop_78
    · refine lv_iconst (v := nI 0) hx hb dX5_readLoop_51 (by decide) ?_
      have hF : rLoop (ga st 11) np (rParts (ga st 11) np k true true) (a, p9, z, d, f, w) = (false, (a7, p7_, z7, d7_, f7, w7)) := by
        simp only [rLoop, rUp, rPt, rUp2, rAdd, rAim, if_true, if_false, Bool.false_eq_true, not_true_eq_false, not_false_eq_true, and_true, true_and, and_false, false_and, eq_self, decide_true, decide_false, Nat.lt_irrefl, Bool.not_eq_true, Bool.and_true, Bool.and_false, Bool.false_and, Bool.true_and, Bool.or_true, Bool.or_false, Bool.true_or, Bool.false_or, reduceCtorEq, c41, c48, e7_]
      exact x_zret C hr hlocks (by first | rfl | exact bi_zn _ | decide) h ⟨by rw [hF]; rfl, by rw [hF]; exact Eu8⟩ dX5_readLoop_52

set_option maxHeartbeats 4000000 in
set_option maxRecDepth 100000 in
theorem c_X5_readChoice (l : Launch) (D : va_G) (cy : Nat → ClassId) (ad : Nat → Nat) (Ls : List Nat) (st : XS) (hL : ∀ k, xC k = true → k ∈ Ls) {g : Nat} (hg40 : g < 40) (hG : ∀ j, j < 4 → 300 + 4 * g + j ∈ Ls) (hgp : gp st 1 1 = some (300 + 4 * g)) (np : Nat) (hnp : gi st 1 2 = nI np) (a p9 z : Int32) (d f w : Nat → Int32) (k dp : Nat) (hdp : dp ≤ 5) (hPT : PTc l D cy ad Ls st g np k (dp + 1)) (il : Bool) : xMi l yX5_readChoice cX5_readChoice 6 (some .boolean) (11 + 3 * k) D cy ad Ls (rdS st g (a, p9, z, d, f, w)) [.ref (ad 1), .int (nI dp), .int (bi il)] (fun r u => r = bi (rChoice (ga st 11) np il (rParts (ga st 11) np k il false) (a, p9, z, d, f, w)).1 ∧ u = rdS st g (rChoice (ga st 11) np il (rParts (ga st 11) np k il false) (a, p9, z, d, f, w)).2) := by
  intro sz
  refine x_of sz (by decide +kernel) (Nat.le_of_ble_eq_true rfl) ?_
  intro p e s m args below meth c ls hx hb hr hlocks C hsz h hl
  have hl : lv_has ls 6 [(0, .ref (ad 1)), (1, .int (nI dp)), (2, .int (bi il))] := hl
  obtain ⟨H, eH⟩ : ∃ z, z = s.heap := ⟨_, rfl⟩
  obtain ⟨locs, eL⟩ : ∃ z : List Loc, z = [] := ⟨_, rfl⟩
  rw [← eH, ← eL] at h
  rw [← eH, ← eL]
  clear eH eL
  obtain ⟨v, hv⟩ : ∃ v, v = rdS st g (a, p9, z, d, f, w) := ⟨_, rfl⟩
  rw [← hv] at h
  refine lv_aload_n hx hb dX5_readChoice_0 rfl (lv_at hl 0 rfl) ?_
  refine lv_dup hx hb dX5_readChoice_1 rfl ?_
  refine gf_X5_29 C h (hL 1 rfl) rfl dX5_readChoice_2 ?_
  refine x_topi (y := a) (by rw [hv]; exact gi_rd_a ..) ?_
  refine lv_iconst (v := nI 1) hx hb dX5_readChoice_5 (by decide) ?_
  refine lv_iadd hx hb dX5_readChoice_6 ?_
  refine pf_X5_29 C h (hL 1 rfl) rfl dX5_readChoice_7 (fun H locs u1 eu1 h => ?_)
  rw [hv, rd_a] at eu1
  refine lv_aload_n hx hb dX5_readChoice_10 rfl (lv_at hl 0 rfl) ?_
  refine lv_dup hx hb dX5_readChoice_11 rfl ?_
  refine gf_X5_32 C h (hL 1 rfl) rfl dX5_readChoice_12 ?_
  refine x_topi (y := p9) (by rw [eu1]; exact gi_rd_p ..) ?_
  refine lv_iconst (v := nI 1) hx hb dX5_readChoice_15 (by decide) ?_
  refine lv_iadd hx hb dX5_readChoice_16 ?_
  refine pf_X5_32 C h (hL 1 rfl) rfl dX5_readChoice_17 (fun H locs u2 eu2 h => ?_)
  rw [eu1, rd_p] at eu2
  refine lv_aload_n hx hb dX5_readChoice_20 rfl (lv_at hl 0 rfl) ?_
  refine lv_iload_n hx hb dX5_readChoice_21 rfl (lv_at hl 2 rfl) ?_
  rw [eu2] at h
  refine cl_X5_64 C h (hL 1 rfl) rfl (c_X5_readSum l D cy ad Ls st hL hg40 hG hgp np hnp (a + (nI 1)) (p9 + (nI 1)) z d f w il) (x_room (by omega)) ⟨Nat.zero_le _, Nat.zero_le _⟩ hl.1 (Nat.le_of_ble_eq_true rfl) dX5_readChoice_22 (fun r4 u3 H locs hp h => ?_)
  obtain ⟨q5, a5, p5_, z5, d5_, f5, w5, e5_⟩ : ∃ y0 y1 y2 y3 y4 y5 y6, rSum (ga st 11) np il (a + (nI 1), p9 + (nI 1), z, d, f, w) = (y0, y1, y2, y3, y4, y5, y6) := ⟨_, _, _, _, _, _, _, rfl⟩
  obtain ⟨er, eu⟩ := hp; rw [e5_] at er eu; replace er : r4 = bi q5 := er; replace eu : u3 = rdS st g (a5, p5_, z5, d5_, f5, w5) := eu
  refine x_topi er ?_; clear er r4
  have Eu3 := eu; clear eu
  refine x_ifb_ne (tgt := 30) hx hb dX5_readChoice_25 (by decide) (fun c25 => ?_) (fun c25 => ?_)
  · refine lv_aload_n hx hb dX5_readChoice_30 rfl (lv_at hl 0 rfl) ?_
    refine gf_X5_12 C h (hL 1 rfl) rfl (k2 := 2) rfl dX5_readChoice_31 ?_
    refine lv_aload_n hx hb dX5_readChoice_34 rfl (lv_at hl 0 rfl) ?_
    refine gf_X5_29 C h (hL 1 rfl) rfl dX5_readChoice_35 ?_
    refine x_topi (y := a5) (by rw [Eu3]; exact gi_rd_a ..) ?_
    refine cl_X5_40 C h (hL 2 rfl) rfl (c_X3_signAt l D cy ad Ls u3 hL np (by rw [Eu3, gi_rd_o (by decide) (by decide) (by omega)]; exact hnp) a5) (x_room (by omega)) ⟨Nat.zero_le _, Nat.zero_le _⟩ hl.1 (Nat.le_of_ble_eq_true rfl) dX5_readChoice_38 (fun r7 u6 H locs hp h => ?_)
    obtain ⟨er7, eu6⟩ := hp; rw [eu6] at h; clear eu6 u6; refine x_topi er7 ?_; clear er7 r7
    refine x_topi (y := sgF (ga st 11) np a5) (by rw [Eu3, ga_rd_o (by decide)]) ?_
    refine lv_istore_n (lv' := [(3, .int (sgF (ga st 11) np a5)), (0, .ref (ad 1)), (1, .int (nI dp)), (2, .int (bi il))]) hx hb dX5_readChoice_41 rfl hl (by decide) rfl (fun ls hl => ?_)
    refine lv_aload_n hx hb dX5_readChoice_42 rfl (lv_at hl 1 rfl) ?_
    refine lv_bipush (v := nI 60) hx hb dX5_readChoice_43 (by decide) ?_
    rw [Eu3] at h
    refine cl_X5_67 C h (hL 1 rfl) rfl (c_X5_skip l D cy ad Ls st hL hg40 hG hgp np hnp a5 p5_ z5 d5_ f5 w5 (nI 60)) (x_room (by omega)) ⟨Nat.zero_le _, Nat.zero_le _⟩ hl.1 (Nat.le_of_ble_eq_true rfl) dX5_readChoice_45 (fun r9 u8 H locs hp h => ?_)
    obtain ⟨q10, a10, p10_, z10, d10_, f10, w10, e10_⟩ : ∃ y0 y1 y2 y3 y4 y5 y6, rSkip (ga st 11) np (nI 60) (a5, p5_, z5, d5_, f5, w5) = (y0, y1, y2, y3, y4, y5, y6) := ⟨_, _, _, _, _, _, _, rfl⟩
    obtain ⟨er, eu⟩ := hp; rw [e10_] at er eu; replace er : r9 = bi q10 := er; replace eu : u8 = rdS st g (a10, p10_, z10, d10_, f10, w10) := eu
    refine x_topi er ?_; clear er r9
    have Eu8 := eu; clear eu
    refine x_ifb_ne (tgt := 71) hx hb dX5_readChoice_48 (by decide) (fun c48 => ?_) (fun c48 => ?_)
    · refine lv_aload_n hx hb dX5_readChoice_71 rfl (lv_at hl 1 rfl) ?_
      refine gf_X5_21 C h (hL 1 rfl) rfl dX5_readChoice_72 ?_
      refine x_topref (q := ad (300 + 4 * g)) (by rw [Eu8, gp_rd, hgp]; rfl) ?_
      refine lv_iconst (v := nI 4) hx hb dX5_readChoice_75 (by decide) ?_
      refine lv_iconst (v := nI 0) hx hb dX5_readChoice_76 (by decide) ?_
      refine lv_iconst (v := nI 0) hx hb dX5_readChoice_77 (by decide) ?_
      refine cl_X5_48 C h (show 300 + 4 * g ∈ Ls from hG 0 (by decide)) (kd_f0 hg40) (c_X1_add l D cy ad Ls u8 hg40 hG z10 (by rw [Eu8]; exact gi_rd_z ..) (nI 4) (nI 0) (nI 0)) (x_room (by omega)) ⟨Nat.zero_le _, Nat.zero_le _⟩ hl.1 (Nat.le_of_ble_eq_true rfl) dX5_readChoice_78 (fun r12 u11 H locs hp h => ?_)
      obtain ⟨er, eu⟩ := hp; rw [Eu8, ga_rd_1, ga_rd_2, ga_rd_3, rd_1, rd_2, rd_3, rd_z] at eu; refine x_topi er ?_; clear er r12
      have Eu11 := eu; clear eu
      refine lv_pop hx hb dX5_readChoice_81 rfl ?_
      refine lv_aload_n hx hb dX5_readChoice_82 rfl (lv_at hl 1 rfl) ?_
      refine lv_iload_n hx hb dX5_readChoice_83 rfl (lv_at hl 3 rfl) ?_
      rw [Eu11] at h
      refine cl_X5_64 C h (hL 1 rfl) rfl (c_X5_readSum l D cy ad Ls st hL hg40 hG hgp np hnp a10 p10_ (z10 + nI 1) (xset 160 d10_ z10 (nI 4)) (xset 160 f10 z10 (nI 0)) (xset 160 w10 z10 (nI 0)) il) (x_room (by omega)) ⟨Nat.zero_le _, Nat.zero_le _⟩ hl.1 (Nat.le_of_ble_eq_true rfl) dX5_readChoice_84 (fun r14 u13 H locs hp h => ?_)
      obtain ⟨q15, a15, p15_, z15, d15_, f15, w15, e15_⟩ : ∃ y0 y1 y2 y3 y4 y5 y6, rSum (ga st 11) np il (a10, p10_, z10 + nI 1, xset 160 d10_ z10 (nI 4), xset 160 f10 z10 (nI 0), xset 160 w10 z10 (nI 0)) = (y0, y1, y2, y3, y4, y5, y6) := ⟨_, _, _, _, _, _, _, rfl⟩
      obtain ⟨er, eu⟩ := hp; rw [e15_] at er eu; replace er : r14 = bi q15 := er; replace eu : u13 = rdS st g (a15, p15_, z15, d15_, f15, w15) := eu
      refine x_topi er ?_; clear er r14
      have Eu13 := eu; clear eu
      refine x_ifb_eq (tgt := 99) hx hb dX5_readChoice_87 (by decide) (fun c87 => ?_) (fun c87 => ?_)
      · refine lv_iconst (v := nI 0) hx hb dX5_readChoice_99 (by decide) ?_
        have hF : rChoice (ga st 11) np il (rParts (ga st 11) np k il false) (a, p9, z, d, f, w) = (false, (a15, p15_, z15, d15_, f15, w15)) := by
          simp only [rChoice, rChoiceA, rChoiceB, rUp, rPt, rUp2, rAdd, rAim, if_true, if_false, Bool.false_eq_true, not_true_eq_false, not_false_eq_true, and_true, true_and, and_false, false_and, eq_self, decide_true, decide_false, Nat.lt_irrefl, Bool.not_eq_true, Bool.and_true, Bool.and_false, Bool.false_and, Bool.true_and, Bool.or_true, Bool.or_false, Bool.true_or, Bool.false_or, reduceCtorEq, c25, c48, c87, e5_, e10_, e15_]
        exact x_zret C hr hlocks (by first | rfl | exact bi_zn _ | decide) h ⟨by rw [hF]; rfl, by rw [hF]; exact Eu13⟩ dX5_readChoice_100
      · refine lv_aload_n hx hb dX5_readChoice_90 rfl (lv_at hl 1 rfl) ?_
        refine lv_bipush (v := nI 58) hx hb dX5_readChoice_91 (by decide) ?_
        rw [Eu13] at h
        refine cl_X5_67 C h (hL 1 rfl) rfl (c_X5_skip l D cy ad Ls st hL hg40 hG hgp np hnp a15 p15_ z15 d15_ f15 w15 (nI 58)) (x_room (by omega)) ⟨Nat.zero_le _, Nat.zero_le _⟩ hl.1 (Nat.le_of_ble_eq_true rfl) dX5_readChoice_93 (fun r17 u16 H locs hp h => ?_)
        obtain ⟨q18, a18, p18_, z18, d18_, f18, w18, e18_⟩ : ∃ y0 y1 y2 y3 y4 y5 y6, rSkip (ga st 11) np (nI 58) (a15, p15_, z15, d15_, f15, w15) = (y0, y1, y2, y3, y4, y5, y6) := ⟨_, _, _, _, _, _, _, rfl⟩
        obtain ⟨er, eu⟩ := hp; rw [e18_] at er eu; replace er : r17 = bi q18 := er; replace eu : u16 = rdS st g (a18, p18_, z18, d18_, f18, w18) := eu
        refine x_topi er ?_; clear er r17
        have Eu16 := eu; clear eu
        refine x_ifb_ne (tgt := 101) hx hb dX5_readChoice_96 (by decide) (fun c96 => ?_) (fun c96 => ?_)
        · refine lv_aload_n hx hb dX5_readChoice_101 rfl (lv_at hl 1 rfl) ?_
          refine gf_X5_21 C h (hL 1 rfl) rfl dX5_readChoice_102 ?_
          refine x_topref (q := ad (300 + 4 * g)) (by rw [Eu16, gp_rd, hgp]; rfl) ?_
          refine lv_iconst (v := nI 5) hx hb dX5_readChoice_105 (by decide) ?_
          refine lv_iload_n hx hb dX5_readChoice_106 rfl (lv_at hl 0 rfl) ?_
          refine lv_iconst (v := nI 0) hx hb dX5_readChoice_107 (by decide) ?_
          refine cl_X5_48 C h (show 300 + 4 * g ∈ Ls from hG 0 (by decide)) (kd_f0 hg40) (c_X1_add l D cy ad Ls u16 hg40 hG z18 (by rw [Eu16]; exact gi_rd_z ..) (nI 5) (sgF (ga st 11) np a5) (nI 0)) (x_room (by omega)) ⟨Nat.zero_le _, Nat.zero_le _⟩ hl.1 (Nat.le_of_ble_eq_true rfl) dX5_readChoice_108 (fun r20 u19 H locs hp h => ?_)
          obtain ⟨er, eu⟩ := hp; rw [Eu16, ga_rd_1, ga_rd_2, ga_rd_3, rd_1, rd_2, rd_3, rd_z] at eu; refine x_topi er ?_; clear er r20
          have Eu19 := eu; clear eu
          refine lv_istore (lv' := [(4, .int z18), (3, .int (sgF (ga st 11) np a5)), (0, .ref (ad 1)), (1, .int (nI dp)), (2, .int (bi il))]) hx hb dX5_readChoice_111 hl (by decide) rfl (fun ls hl => ?_)
          refine lv_aload_n hx hb dX5_readChoice_113 rfl (lv_at hl 2 rfl) ?_
          refine lv_iload_n hx hb dX5_readChoice_114 rfl (lv_at hl 3 rfl) ?_
          refine lv_iconst (v := nI 1) hx hb dX5_readChoice_115 (by decide) ?_
          refine x_addN hx hb dX5_readChoice_116 ?_
          refine lv_iload_n hx hb dX5_readChoice_117 rfl (lv_at hl 4 rfl) ?_
          refine lv_iconst (v := nI 0) hx hb dX5_readChoice_118 (by decide) ?_
          rw [Eu19] at h
          refine cl_X5_35 C h (hL 1 rfl) rfl (hPT a18 p18_ (z18 + nI 1) (xset 160 d18_ z18 (nI 5)) (xset 160 f18 z18 (sgF (ga st 11) np a5)) (xset 160 w18 z18 (nI 0)) il false) (x_room (by omega)) ⟨Nat.zero_le _, Nat.zero_le _⟩ hl.1 (Nat.le_of_ble_eq_true rfl) dX5_readChoice_119 (fun r22 u21 H locs hp h => ?_)
          obtain ⟨q23, a23, p23_, z23, d23_, f23, w23, e23_⟩ : ∃ y0 y1 y2 y3 y4 y5 y6, rParts (ga st 11) np k il false (a18, p18_, z18 + nI 1, xset 160 d18_ z18 (nI 5), xset 160 f18 z18 (sgF (ga st 11) np a5), xset 160 w18 z18 (nI 0)) = (y0, y1, y2, y3, y4, y5, y6) := ⟨_, _, _, _, _, _, _, rfl⟩
          obtain ⟨er, eu⟩ := hp; rw [e23_] at er eu; replace er : r22 = bi q23 := er; replace eu : u21 = rdS st g (a23, p23_, z23, d23_, f23, w23) := eu
          refine x_topi er ?_; clear er r22
          have Eu21 := eu; clear eu
          refine x_ifb_ne (tgt := 127) hx hb dX5_readChoice_122 (by decide) (fun c122 => ?_) (fun c122 => ?_)
          · refine lv_aload_n hx hb dX5_readChoice_127 rfl (lv_at hl 2 rfl) ?_
            refine lv_bipush (v := nI 124) hx hb dX5_readChoice_128 (by decide) ?_
            rw [Eu21] at h
            refine cl_X5_67 C h (hL 1 rfl) rfl (c_X5_skip l D cy ad Ls st hL hg40 hG hgp np hnp a23 p23_ z23 d23_ f23 w23 (nI 124)) (x_room (by omega)) ⟨Nat.zero_le _, Nat.zero_le _⟩ hl.1 (Nat.le_of_ble_eq_true rfl) dX5_readChoice_130 (fun r25 u24 H locs hp h => ?_)
            obtain ⟨q26, a26, p26_, z26, d26_, f26, w26, e26_⟩ : ∃ y0 y1 y2 y3 y4 y5 y6, rSkip (ga st 11) np (nI 124) (a23, p23_, z23, d23_, f23, w23) = (y0, y1, y2, y3, y4, y5, y6) := ⟨_, _, _, _, _, _, _, rfl⟩
            obtain ⟨er, eu⟩ := hp; rw [e26_] at er eu; replace er : r25 = bi q26 := er; replace eu : u24 = rdS st g (a26, p26_, z26, d26_, f26, w26) := eu
            refine x_topi er ?_; clear er r25
            have Eu24 := eu; clear eu
            refine x_ifb_ne (tgt := 152) hx hb dX5_readChoice_133 (by decide) (fun c133 => ?_) (fun c133 => ?_)
            · refine lv_aload_n hx hb dX5_readChoice_152 rfl (lv_at hl 2 rfl) ?_
              refine gf_X5_21 C h (hL 1 rfl) rfl dX5_readChoice_153 ?_
              refine x_topref (q := ad (300 + 4 * g)) (by rw [Eu24, gp_rd, hgp]; rfl) ?_
              refine lv_bipush (v := nI 6) hx hb dX5_readChoice_156 (by decide) ?_
              refine lv_iconst (v := nI 0) hx hb dX5_readChoice_158 (by decide) ?_
              refine lv_iconst (v := nI 0) hx hb dX5_readChoice_159 (by decide) ?_
              refine cl_X5_48 C h (show 300 + 4 * g ∈ Ls from hG 0 (by decide)) (kd_f0 hg40) (c_X1_add l D cy ad Ls u24 hg40 hG z26 (by rw [Eu24]; exact gi_rd_z ..) (nI 6) (nI 0) (nI 0)) (x_room (by omega)) ⟨Nat.zero_le _, Nat.zero_le _⟩ hl.1 (Nat.le_of_ble_eq_true rfl) dX5_readChoice_160 (fun r28 u27 H locs hp h => ?_)
              obtain ⟨er, eu⟩ := hp; rw [Eu24, ga_rd_1, ga_rd_2, ga_rd_3, rd_1, rd_2, rd_3, rd_z] at eu; refine x_topi er ?_; clear er r28
              have Eu27 := eu; clear eu
              refine lv_istore (lv' := [(5, .int z26), (4, .int z18), (3, .int (sgF (ga st 11) np a5)), (0, .ref (ad 1)), (1, .int (nI dp)), (2, .int (bi il))]) hx hb dX5_readChoice_163 hl (by decide) rfl (fun ls hl => ?_)
              refine lv_aload_n hx hb dX5_readChoice_165 rfl (lv_at hl 3 rfl) ?_
              refine gf_X5_21 C h (hL 1 rfl) rfl dX5_readChoice_166 ?_
              refine x_topref (q := ad (300 + 4 * g)) (by rw [Eu27, gp_rd, hgp]; rfl) ?_
              refine lv_iload hx hb dX5_readChoice_169 (lv_at hl 1 rfl) ?_
              refine cl_X5_71 C h (show 300 + 4 * g ∈ Ls from hG 0 (by decide)) (kd_f0 hg40) (c_X1_aimHere l D cy ad Ls u27 hg40 hG z18) (x_room (by omega)) ⟨Nat.zero_le _, Nat.zero_le _⟩ hl.1 (Nat.le_of_ble_eq_true rfl) dX5_readChoice_171 (fun u29 H locs hp h => ?_)
              have eu := hp; clear hp; rw [Eu27, ga_rd_3, gi_rd_z, rd_3] at eu
              have Eu29 := eu; clear eu
              refine lv_aload_n hx hb dX5_readChoice_174 rfl (lv_at hl 3 rfl) ?_
              refine lv_iload_n hx hb dX5_readChoice_175 rfl (lv_at hl 4 rfl) ?_
              refine lv_iconst (v := nI 1) hx hb dX5_readChoice_176 (by decide) ?_
              refine x_addN hx hb dX5_readChoice_177 ?_
              refine lv_iload_n hx hb dX5_readChoice_178 rfl (lv_at hl 5 rfl) ?_
              refine lv_iconst (v := nI 0) hx hb dX5_readChoice_179 (by decide) ?_
              rw [Eu29] at h
              refine cl_X5_35 C h (hL 1 rfl) rfl (hPT a26 p26_ (z26 + nI 1) (xset 160 d26_ z26 (nI 6)) (xset 160 f26 z26 (nI 0)) (xset 160 (xset 160 w26 z26 (nI 0)) z18 (z26 + nI 1)) il false) (x_room (by omega)) ⟨Nat.zero_le _, Nat.zero_le _⟩ hl.1 (Nat.le_of_ble_eq_true rfl) dX5_readChoice_180 (fun r32 u31 H locs hp h => ?_)
              obtain ⟨q33, a33, p33_, z33, d33_, f33, w33, e33_⟩ : ∃ y0 y1 y2 y3 y4 y5 y6, rParts (ga st 11) np k il false (a26, p26_, z26 + nI 1, xset 160 d26_ z26 (nI 6), xset 160 f26 z26 (nI 0), xset 160 (xset 160 w26 z26 (nI 0)) z18 (z26 + nI 1)) = (y0, y1, y2, y3, y4, y5, y6) := ⟨_, _, _, _, _, _, _, rfl⟩
              obtain ⟨er, eu⟩ := hp; rw [e33_] at er eu; replace er : r32 = bi q33 := er; replace eu : u31 = rdS st g (a33, p33_, z33, d33_, f33, w33) := eu
              refine x_topi er ?_; clear er r32
              have Eu31 := eu; clear eu
              refine x_ifb_ne (tgt := 188) hx hb dX5_readChoice_183 (by decide) (fun c183 => ?_) (fun c183 => ?_)
              · refine lv_aload_n hx hb dX5_readChoice_188 rfl (lv_at hl 3 rfl) ?_
                refine gf_X5_21 C h (hL 1 rfl) rfl dX5_readChoice_189 ?_
                refine x_topref (q := ad (300 + 4 * g)) (by rw [Eu31, gp_rd, hgp]; rfl) ?_
                refine lv_iload hx hb dX5_readChoice_192 (lv_at hl 0 rfl) ?_
                refine cl_X5_71 C h (show 300 + 4 * g ∈ Ls from hG 0 (by decide)) (kd_f0 hg40) (c_X1_aimHere l D cy ad Ls u31 hg40 hG z26) (x_room (by omega)) ⟨Nat.zero_le _, Nat.zero_le _⟩ hl.1 (Nat.le_of_ble_eq_true rfl) dX5_readChoice_194 (fun u34 H locs hp h => ?_)
                have eu := hp; clear hp; rw [Eu31, ga_rd_3, gi_rd_z, rd_3] at eu
                have Eu34 := eu; clear eu
                refine lv_aload_n hx hb dX5_readChoice_197 rfl (lv_at hl 3 rfl) ?_
                refine lv_bipush (v := nI 125) hx hb dX5_readChoice_198 (by decide) ?_
                rw [Eu34] at h
                refine cl_X5_67 C h (hL 1 rfl) rfl (c_X5_skip l D cy ad Ls st hL hg40 hG hgp np hnp a33 p33_ z33 d33_ f33 (xset 160 w33 z26 z33) (nI 125)) (x_room (by omega)) ⟨Nat.zero_le _, Nat.zero_le _⟩ hl.1 (Nat.le_of_ble_eq_true rfl) dX5_readChoice_200 (fun r37 u36 H locs hp h => ?_)
                obtain ⟨q38, a38, p38_, z38, d38_, f38, w38, e38_⟩ : ∃ y0 y1 y2 y3 y4 y5 y6, rSkip (ga st 11) np (nI 125) (a33, p33_, z33, d33_, f33, xset 160 w33 z26 z33) = (y0, y1, y2, y3, y4, y5, y6) := ⟨_, _, _, _, _, _, _, rfl⟩
                obtain ⟨er, eu⟩ := hp; rw [e38_] at er eu; replace er : r37 = bi q38 := er; replace eu : u36 = rdS st g (a38, p38_, z38, d38_, f38, w38) := eu
                refine x_topi er ?_; clear er r37
                have Eu36 := eu; clear eu
                have hF : rChoice (ga st 11) np il (rParts (ga st 11) np k il false) (a, p9, z, d, f, w) = (q38, (a38, p38_, z38, d38_, f38, w38)) := by
                  simp only [rChoice, rChoiceA, rChoiceB, rUp, rPt, rUp2, rAdd, rAim, if_true, if_false, Bool.false_eq_true, not_true_eq_false, not_false_eq_true, and_true, true_and, and_false, false_and, eq_self, decide_true, decide_false, Nat.lt_irrefl, Bool.not_eq_true, Bool.and_true, Bool.and_false, Bool.false_and, Bool.true_and, Bool.or_true, Bool.or_false, Bool.true_or, Bool.false_or, reduceCtorEq, c25, c48, c87, c96, c122, c133, c183, e5_, e10_, e15_, e18_, e23_, e26_, e33_, e38_]
                exact x_zret C hr hlocks (by first | rfl | exact bi_zn _ | decide) h ⟨by rw [hF], by rw [hF]; exact Eu36⟩ dX5_readChoice_203
              · refine lv_iconst (v := nI 0) hx hb dX5_readChoice_186 (by decide) ?_
                have hF : rChoice (ga st 11) np il (rParts (ga st 11) np k il false) (a, p9, z, d, f, w) = (false, (a33, p33_, z33, d33_, f33, w33)) := by
                  simp only [rChoice, rChoiceA, rChoiceB, rUp, rPt, rUp2, rAdd, rAim, if_true, if_false, Bool.false_eq_true, not_true_eq_false, not_false_eq_true, and_true, true_and, and_false, false_and, eq_self, decide_true, decide_false, Nat.lt_irrefl, Bool.not_eq_true, Bool.and_true, Bool.and_false, Bool.false_and, Bool.true_and, Bool.or_true, Bool.or_false, Bool.true_or, Bool.false_or, reduceCtorEq, c25, c48, c87, c96, c122, c133, c183, e5_, e10_, e15_, e18_, e23_, e26_, e33_]
                exact x_zret C hr hlocks (by first | rfl | exact bi_zn _ | decide) h ⟨by rw [hF]; rfl, by rw [hF]; exact Eu31⟩ dX5_readChoice_187
            · refine lv_aload_n hx hb dX5_readChoice_136 rfl (lv_at hl 2 rfl) ?_
              refine gf_X5_21 C h (hL 1 rfl) rfl dX5_readChoice_137 ?_
              refine x_topref (q := ad (300 + 4 * g)) (by rw [Eu24, gp_rd, hgp]; rfl) ?_
              refine lv_iload hx hb dX5_readChoice_140 (lv_at hl 0 rfl) ?_
              refine cl_X5_71 C h (show 300 + 4 * g ∈ Ls from hG 0 (by decide)) (kd_f0 hg40) (c_X1_aimHere l D cy ad Ls u24 hg40 hG z18) (x_room (by omega)) ⟨Nat.zero_le _, Nat.zero_le _⟩ hl.1 (Nat.le_of_ble_eq_true rfl) dX5_readChoice_142 (fun u39 H locs hp h => ?_)
              have eu := hp; clear hp; rw [Eu24, ga_rd_3, gi_rd_z, rd_3] at eu
              have Eu39 := eu; clear eu
              refine lv_aload_n hx hb dX5_readChoice_145 rfl (lv_at hl 2 rfl) ?_
              refine lv_bipush (v := nI 125) hx hb dX5_readChoice_146 (by decide) ?_
              rw [Eu39] at h
              refine cl_X5_67 C h (hL 1 rfl) rfl (c_X5_skip l D cy ad Ls st hL hg40 hG hgp np hnp a26 p26_ z26 d26_ f26 (xset 160 w26 z18 z26) (nI 125)) (x_room (by omega)) ⟨Nat.zero_le _, Nat.zero_le _⟩ hl.1 (Nat.le_of_ble_eq_true rfl) dX5_readChoice_148 (fun r42 u41 H locs hp h => ?_)
              obtain ⟨q43, a43, p43_, z43, d43_, f43, w43, e43_⟩ : ∃ y0 y1 y2 y3 y4 y5 y6, rSkip (ga st 11) np (nI 125) (a26, p26_, z26, d26_, f26, xset 160 w26 z18 z26) = (y0, y1, y2, y3, y4, y5, y6) := ⟨_, _, _, _, _, _, _, rfl⟩
              obtain ⟨er, eu⟩ := hp; rw [e43_] at er eu; replace er : r42 = bi q43 := er; replace eu : u41 = rdS st g (a43, p43_, z43, d43_, f43, w43) := eu
              refine x_topi er ?_; clear er r42
              have Eu41 := eu; clear eu
              have hF : rChoice (ga st 11) np il (rParts (ga st 11) np k il false) (a, p9, z, d, f, w) = (q43, (a43, p43_, z43, d43_, f43, w43)) := by
                simp only [rChoice, rChoiceA, rChoiceB, rUp, rPt, rUp2, rAdd, rAim, if_true, if_false, Bool.false_eq_true, not_true_eq_false, not_false_eq_true, and_true, true_and, and_false, false_and, eq_self, decide_true, decide_false, Nat.lt_irrefl, Bool.not_eq_true, Bool.and_true, Bool.and_false, Bool.false_and, Bool.true_and, Bool.or_true, Bool.or_false, Bool.true_or, Bool.false_or, reduceCtorEq, c25, c48, c87, c96, c122, c133, e5_, e10_, e15_, e18_, e23_, e26_, e43_]
              exact x_zret C hr hlocks (by first | rfl | exact bi_zn _ | decide) h ⟨by rw [hF], by rw [hF]; exact Eu41⟩ dX5_readChoice_151
          · refine lv_iconst (v := nI 0) hx hb dX5_readChoice_125 (by decide) ?_
            have hF : rChoice (ga st 11) np il (rParts (ga st 11) np k il false) (a, p9, z, d, f, w) = (false, (a23, p23_, z23, d23_, f23, w23)) := by
              simp only [rChoice, rChoiceA, rChoiceB, rUp, rPt, rUp2, rAdd, rAim, if_true, if_false, Bool.false_eq_true, not_true_eq_false, not_false_eq_true, and_true, true_and, and_false, false_and, eq_self, decide_true, decide_false, Nat.lt_irrefl, Bool.not_eq_true, Bool.and_true, Bool.and_false, Bool.false_and, Bool.true_and, Bool.or_true, Bool.or_false, Bool.true_or, Bool.false_or, reduceCtorEq, c25, c48, c87, c96, c122, e5_, e10_, e15_, e18_, e23_]
            exact x_zret C hr hlocks (by first | rfl | exact bi_zn _ | decide) h ⟨by rw [hF]; rfl, by rw [hF]; exact Eu21⟩ dX5_readChoice_126
        · refine lv_iconst (v := nI 0) hx hb dX5_readChoice_99 (by decide) ?_
          have hF : rChoice (ga st 11) np il (rParts (ga st 11) np k il false) (a, p9, z, d, f, w) = (false, (a18, p18_, z18, d18_, f18, w18)) := by
            simp only [rChoice, rChoiceA, rChoiceB, rUp, rPt, rUp2, rAdd, rAim, if_true, if_false, Bool.false_eq_true, not_true_eq_false, not_false_eq_true, and_true, true_and, and_false, false_and, eq_self, decide_true, decide_false, Nat.lt_irrefl, Bool.not_eq_true, Bool.and_true, Bool.and_false, Bool.false_and, Bool.true_and, Bool.or_true, Bool.or_false, Bool.true_or, Bool.false_or, reduceCtorEq, c25, c48, c87, c96, e5_, e10_, e15_, e18_]
          exact x_zret C hr hlocks (by first | rfl | exact bi_zn _ | decide) h ⟨by rw [hF]; rfl, by rw [hF]; exact Eu16⟩ dX5_readChoice_100
    · refine lv_aload_n hx hb dX5_readChoice_51 rfl (lv_at hl 1 rfl) ?_
      refine lv_bipush (v := nI 62) hx hb dX5_readChoice_52 (by decide) ?_
      rw [Eu8] at h
      refine cl_X5_67 C h (hL 1 rfl) rfl (c_X5_skip l D cy ad Ls st hL hg40 hG hgp np hnp a10 p10_ z10 d10_ f10 w10 (nI 62)) (x_room (by omega)) ⟨Nat.zero_le _, Nat.zero_le _⟩ hl.1 (Nat.le_of_ble_eq_true rfl) dX5_readChoice_54 (fun r45 u44 H locs hp h => ?_)
      obtain ⟨q46, a46, p46_, z46, d46_, f46, w46, e46_⟩ : ∃ y0 y1 y2 y3 y4 y5 y6, rSkip (ga st 11) np (nI 62) (a10, p10_, z10, d10_, f10, w10) = (y0, y1, y2, y3, y4, y5, y6) := ⟨_, _, _, _, _, _, _, rfl⟩
      obtain ⟨er, eu⟩ := hp; rw [e46_] at er eu; replace er : r45 = bi q46 := er; replace eu : u44 = rdS st g (a46, p46_, z46, d46_, f46, w46) := eu
      refine x_topi er ?_; clear er r45
      have Eu44 := eu; clear eu
      refine x_ifb_ne (tgt := 71) hx hb dX5_readChoice_57 (by decide) (fun c57 => ?_) (fun c57 => ?_)
      · refine lv_aload_n hx hb dX5_readChoice_71 rfl (lv_at hl 1 rfl) ?_
        refine gf_X5_21 C h (hL 1 rfl) rfl dX5_readChoice_72 ?_
        refine x_topref (q := ad (300 + 4 * g)) (by rw [Eu44, gp_rd, hgp]; rfl) ?_
        refine lv_iconst (v := nI 4) hx hb dX5_readChoice_75 (by decide) ?_
        refine lv_iconst (v := nI 0) hx hb dX5_readChoice_76 (by decide) ?_
        refine lv_iconst (v := nI 0) hx hb dX5_readChoice_77 (by decide) ?_
        refine cl_X5_48 C h (show 300 + 4 * g ∈ Ls from hG 0 (by decide)) (kd_f0 hg40) (c_X1_add l D cy ad Ls u44 hg40 hG z46 (by rw [Eu44]; exact gi_rd_z ..) (nI 4) (nI 0) (nI 0)) (x_room (by omega)) ⟨Nat.zero_le _, Nat.zero_le _⟩ hl.1 (Nat.le_of_ble_eq_true rfl) dX5_readChoice_78 (fun r48 u47 H locs hp h => ?_)
        obtain ⟨er, eu⟩ := hp; rw [Eu44, ga_rd_1, ga_rd_2, ga_rd_3, rd_1, rd_2, rd_3, rd_z] at eu; refine x_topi er ?_; clear er r48
        have Eu47 := eu; clear eu
        refine lv_pop hx hb dX5_readChoice_81 rfl ?_
        refine lv_aload_n hx hb dX5_readChoice_82 rfl (lv_at hl 1 rfl) ?_
        refine lv_iload_n hx hb dX5_readChoice_83 rfl (lv_at hl 3 rfl) ?_
        rw [Eu47] at h
        refine cl_X5_64 C h (hL 1 rfl) rfl (c_X5_readSum l D cy ad Ls st hL hg40 hG hgp np hnp a46 p46_ (z46 + nI 1) (xset 160 d46_ z46 (nI 4)) (xset 160 f46 z46 (nI 0)) (xset 160 w46 z46 (nI 0)) il) (x_room (by omega)) ⟨Nat.zero_le _, Nat.zero_le _⟩ hl.1 (Nat.le_of_ble_eq_true rfl) dX5_readChoice_84 (fun r50 u49 H locs hp h => ?_)
        obtain ⟨q51, a51, p51_, z51, d51_, f51, w51, e51_⟩ : ∃ y0 y1 y2 y3 y4 y5 y6, rSum (ga st 11) np il (a46, p46_, z46 + nI 1, xset 160 d46_ z46 (nI 4), xset 160 f46 z46 (nI 0), xset 160 w46 z46 (nI 0)) = (y0, y1, y2, y3, y4, y5, y6) := ⟨_, _, _, _, _, _, _, rfl⟩
        obtain ⟨er, eu⟩ := hp; rw [e51_] at er eu; replace er : r50 = bi q51 := er; replace eu : u49 = rdS st g (a51, p51_, z51, d51_, f51, w51) := eu
        refine x_topi er ?_; clear er r50
        have Eu49 := eu; clear eu
        refine x_ifb_eq (tgt := 99) hx hb dX5_readChoice_87 (by decide) (fun c87 => ?_) (fun c87 => ?_)
        · refine lv_iconst (v := nI 0) hx hb dX5_readChoice_99 (by decide) ?_
          have hF : rChoice (ga st 11) np il (rParts (ga st 11) np k il false) (a, p9, z, d, f, w) = (false, (a51, p51_, z51, d51_, f51, w51)) := by
            simp only [rChoice, rChoiceA, rChoiceB, rUp, rPt, rUp2, rAdd, rAim, if_true, if_false, Bool.false_eq_true, not_true_eq_false, not_false_eq_true, and_true, true_and, and_false, false_and, eq_self, decide_true, decide_false, Nat.lt_irrefl, Bool.not_eq_true, Bool.and_true, Bool.and_false, Bool.false_and, Bool.true_and, Bool.or_true, Bool.or_false, Bool.true_or, Bool.false_or, reduceCtorEq, c25, c48, c57, c87, e5_, e10_, e46_, e51_]
          exact x_zret C hr hlocks (by first | rfl | exact bi_zn _ | decide) h ⟨by rw [hF]; rfl, by rw [hF]; exact Eu49⟩ dX5_readChoice_100
        · refine lv_aload_n hx hb dX5_readChoice_90 rfl (lv_at hl 1 rfl) ?_
          refine lv_bipush (v := nI 58) hx hb dX5_readChoice_91 (by decide) ?_
          rw [Eu49] at h
          refine cl_X5_67 C h (hL 1 rfl) rfl (c_X5_skip l D cy ad Ls st hL hg40 hG hgp np hnp a51 p51_ z51 d51_ f51 w51 (nI 58)) (x_room (by omega)) ⟨Nat.zero_le _, Nat.zero_le _⟩ hl.1 (Nat.le_of_ble_eq_true rfl) dX5_readChoice_93 (fun r53 u52 H locs hp h => ?_)
          obtain ⟨q54, a54, p54_, z54, d54_, f54, w54, e54_⟩ : ∃ y0 y1 y2 y3 y4 y5 y6, rSkip (ga st 11) np (nI 58) (a51, p51_, z51, d51_, f51, w51) = (y0, y1, y2, y3, y4, y5, y6) := ⟨_, _, _, _, _, _, _, rfl⟩
          obtain ⟨er, eu⟩ := hp; rw [e54_] at er eu; replace er : r53 = bi q54 := er; replace eu : u52 = rdS st g (a54, p54_, z54, d54_, f54, w54) := eu
          refine x_topi er ?_; clear er r53
          have Eu52 := eu; clear eu
          refine x_ifb_ne (tgt := 101) hx hb dX5_readChoice_96 (by decide) (fun c96 => ?_) (fun c96 => ?_)
          · refine lv_aload_n hx hb dX5_readChoice_101 rfl (lv_at hl 1 rfl) ?_
            refine gf_X5_21 C h (hL 1 rfl) rfl dX5_readChoice_102 ?_
            refine x_topref (q := ad (300 + 4 * g)) (by rw [Eu52, gp_rd, hgp]; rfl) ?_
            refine lv_iconst (v := nI 5) hx hb dX5_readChoice_105 (by decide) ?_
            refine lv_iload_n hx hb dX5_readChoice_106 rfl (lv_at hl 0 rfl) ?_
            refine lv_iconst (v := nI 0) hx hb dX5_readChoice_107 (by decide) ?_
            refine cl_X5_48 C h (show 300 + 4 * g ∈ Ls from hG 0 (by decide)) (kd_f0 hg40) (c_X1_add l D cy ad Ls u52 hg40 hG z54 (by rw [Eu52]; exact gi_rd_z ..) (nI 5) (sgF (ga st 11) np a5) (nI 0)) (x_room (by omega)) ⟨Nat.zero_le _, Nat.zero_le _⟩ hl.1 (Nat.le_of_ble_eq_true rfl) dX5_readChoice_108 (fun r56 u55 H locs hp h => ?_)
            obtain ⟨er, eu⟩ := hp; rw [Eu52, ga_rd_1, ga_rd_2, ga_rd_3, rd_1, rd_2, rd_3, rd_z] at eu; refine x_topi er ?_; clear er r56
            have Eu55 := eu; clear eu
            refine lv_istore (lv' := [(4, .int z54), (3, .int (sgF (ga st 11) np a5)), (0, .ref (ad 1)), (1, .int (nI dp)), (2, .int (bi il))]) hx hb dX5_readChoice_111 hl (by decide) rfl (fun ls hl => ?_)
            refine lv_aload_n hx hb dX5_readChoice_113 rfl (lv_at hl 2 rfl) ?_
            refine lv_iload_n hx hb dX5_readChoice_114 rfl (lv_at hl 3 rfl) ?_
            refine lv_iconst (v := nI 1) hx hb dX5_readChoice_115 (by decide) ?_
            refine x_addN hx hb dX5_readChoice_116 ?_
            refine lv_iload_n hx hb dX5_readChoice_117 rfl (lv_at hl 4 rfl) ?_
            refine lv_iconst (v := nI 0) hx hb dX5_readChoice_118 (by decide) ?_
            rw [Eu55] at h
            refine cl_X5_35 C h (hL 1 rfl) rfl (hPT a54 p54_ (z54 + nI 1) (xset 160 d54_ z54 (nI 5)) (xset 160 f54 z54 (sgF (ga st 11) np a5)) (xset 160 w54 z54 (nI 0)) il false) (x_room (by omega)) ⟨Nat.zero_le _, Nat.zero_le _⟩ hl.1 (Nat.le_of_ble_eq_true rfl) dX5_readChoice_119 (fun r58 u57 H locs hp h => ?_)
            obtain ⟨q59, a59, p59_, z59, d59_, f59, w59, e59_⟩ : ∃ y0 y1 y2 y3 y4 y5 y6, rParts (ga st 11) np k il false (a54, p54_, z54 + nI 1, xset 160 d54_ z54 (nI 5), xset 160 f54 z54 (sgF (ga st 11) np a5), xset 160 w54 z54 (nI 0)) = (y0, y1, y2, y3, y4, y5, y6) := ⟨_, _, _, _, _, _, _, rfl⟩
            obtain ⟨er, eu⟩ := hp; rw [e59_] at er eu; replace er : r58 = bi q59 := er; replace eu : u57 = rdS st g (a59, p59_, z59, d59_, f59, w59) := eu
            refine x_topi er ?_; clear er r58
            have Eu57 := eu; clear eu
            refine x_ifb_ne (tgt := 127) hx hb dX5_readChoice_122 (by decide) (fun c122 => ?_) (fun c122 => ?_)
            · refine lv_aload_n hx hb dX5_readChoice_127 rfl (lv_at hl 2 rfl) ?_
              refine lv_bipush (v := nI 124) hx hb dX5_readChoice_128 (by decide) ?_
              rw [Eu57] at h
              refine cl_X5_67 C h (hL 1 rfl) rfl (c_X5_skip l D cy ad Ls st hL hg40 hG hgp np hnp a59 p59_ z59 d59_ f59 w59 (nI 124)) (x_room (by omega)) ⟨Nat.zero_le _, Nat.zero_le _⟩ hl.1 (Nat.le_of_ble_eq_true rfl) dX5_readChoice_130 (fun r61 u60 H locs hp h => ?_)
              obtain ⟨q62, a62, p62_, z62, d62_, f62, w62, e62_⟩ : ∃ y0 y1 y2 y3 y4 y5 y6, rSkip (ga st 11) np (nI 124) (a59, p59_, z59, d59_, f59, w59) = (y0, y1, y2, y3, y4, y5, y6) := ⟨_, _, _, _, _, _, _, rfl⟩
              obtain ⟨er, eu⟩ := hp; rw [e62_] at er eu; replace er : r61 = bi q62 := er; replace eu : u60 = rdS st g (a62, p62_, z62, d62_, f62, w62) := eu
              refine x_topi er ?_; clear er r61
              have Eu60 := eu; clear eu
              refine x_ifb_ne (tgt := 152) hx hb dX5_readChoice_133 (by decide) (fun c133 => ?_) (fun c133 => ?_)
              · refine lv_aload_n hx hb dX5_readChoice_152 rfl (lv_at hl 2 rfl) ?_
                refine gf_X5_21 C h (hL 1 rfl) rfl dX5_readChoice_153 ?_
                refine x_topref (q := ad (300 + 4 * g)) (by rw [Eu60, gp_rd, hgp]; rfl) ?_
                refine lv_bipush (v := nI 6) hx hb dX5_readChoice_156 (by decide) ?_
                refine lv_iconst (v := nI 0) hx hb dX5_readChoice_158 (by decide) ?_
                refine lv_iconst (v := nI 0) hx hb dX5_readChoice_159 (by decide) ?_
                refine cl_X5_48 C h (show 300 + 4 * g ∈ Ls from hG 0 (by decide)) (kd_f0 hg40) (c_X1_add l D cy ad Ls u60 hg40 hG z62 (by rw [Eu60]; exact gi_rd_z ..) (nI 6) (nI 0) (nI 0)) (x_room (by omega)) ⟨Nat.zero_le _, Nat.zero_le _⟩ hl.1 (Nat.le_of_ble_eq_true rfl) dX5_readChoice_160 (fun r64 u63 H locs hp h => ?_)
                obtain ⟨er, eu⟩ := hp; rw [Eu60, ga_rd_1, ga_rd_2, ga_rd_3, rd_1, rd_2, rd_3, rd_z] at eu; refine x_topi er ?_; clear er r64
                have Eu63 := eu; clear eu
                refine lv_istore (lv' := [(5, .int z62), (4, .int z54), (3, .int (sgF (ga st 11) np a5)), (0, .ref (ad 1)), (1, .int (nI dp)), (2, .int (bi il))]) hx hb dX5_readChoice_163 hl (by decide) rfl (fun ls hl => ?_)
                refine lv_aload_n hx hb dX5_readChoice_165 rfl (lv_at hl 3 rfl) ?_
                refine gf_X5_21 C h (hL 1 rfl) rfl dX5_readChoice_166 ?_
                refine x_topref (q := ad (300 + 4 * g)) (by rw [Eu63, gp_rd, hgp]; rfl) ?_
                refine lv_iload hx hb dX5_readChoice_169 (lv_at hl 1 rfl) ?_
                refine cl_X5_71 C h (show 300 + 4 * g ∈ Ls from hG 0 (by decide)) (kd_f0 hg40) (c_X1_aimHere l D cy ad Ls u63 hg40 hG z54) (x_room (by omega)) ⟨Nat.zero_le _, Nat.zero_le _⟩ hl.1 (Nat.le_of_ble_eq_true rfl) dX5_readChoice_171 (fun u65 H locs hp h => ?_)
                have eu := hp; clear hp; rw [Eu63, ga_rd_3, gi_rd_z, rd_3] at eu
                have Eu65 := eu; clear eu
                refine lv_aload_n hx hb dX5_readChoice_174 rfl (lv_at hl 3 rfl) ?_
                refine lv_iload_n hx hb dX5_readChoice_175 rfl (lv_at hl 4 rfl) ?_
                refine lv_iconst (v := nI 1) hx hb dX5_readChoice_176 (by decide) ?_
                refine x_addN hx hb dX5_readChoice_177 ?_
                refine lv_iload_n hx hb dX5_readChoice_178 rfl (lv_at hl 5 rfl) ?_
                refine lv_iconst (v := nI 0) hx hb dX5_readChoice_179 (by decide) ?_
                rw [Eu65] at h
                refine cl_X5_35 C h (hL 1 rfl) rfl (hPT a62 p62_ (z62 + nI 1) (xset 160 d62_ z62 (nI 6)) (xset 160 f62 z62 (nI 0)) (xset 160 (xset 160 w62 z62 (nI 0)) z54 (z62 + nI 1)) il false) (x_room (by omega)) ⟨Nat.zero_le _, Nat.zero_le _⟩ hl.1 (Nat.le_of_ble_eq_true rfl) dX5_readChoice_180 (fun r68 u67 H locs hp h => ?_)
                obtain ⟨q69, a69, p69_, z69, d69_, f69, w69, e69_⟩ : ∃ y0 y1 y2 y3 y4 y5 y6, rParts (ga st 11) np k il false (a62, p62_, z62 + nI 1, xset 160 d62_ z62 (nI 6), xset 160 f62 z62 (nI 0), xset 160 (xset 160 w62 z62 (nI 0)) z54 (z62 + nI 1)) = (y0, y1, y2, y3, y4, y5, y6) := ⟨_, _, _, _, _, _, _, rfl⟩
                obtain ⟨er, eu⟩ := hp; rw [e69_] at er eu; replace er : r68 = bi q69 := er; replace eu : u67 = rdS st g (a69, p69_, z69, d69_, f69, w69) := eu
                refine x_topi er ?_; clear er r68
                have Eu67 := eu; clear eu
                refine x_ifb_ne (tgt := 188) hx hb dX5_readChoice_183 (by decide) (fun c183 => ?_) (fun c183 => ?_)
                · refine lv_aload_n hx hb dX5_readChoice_188 rfl (lv_at hl 3 rfl) ?_
                  refine gf_X5_21 C h (hL 1 rfl) rfl dX5_readChoice_189 ?_
                  refine x_topref (q := ad (300 + 4 * g)) (by rw [Eu67, gp_rd, hgp]; rfl) ?_
                  refine lv_iload hx hb dX5_readChoice_192 (lv_at hl 0 rfl) ?_
                  refine cl_X5_71 C h (show 300 + 4 * g ∈ Ls from hG 0 (by decide)) (kd_f0 hg40) (c_X1_aimHere l D cy ad Ls u67 hg40 hG z62) (x_room (by omega)) ⟨Nat.zero_le _, Nat.zero_le _⟩ hl.1 (Nat.le_of_ble_eq_true rfl) dX5_readChoice_194 (fun u70 H locs hp h => ?_)
                  have eu := hp; clear hp; rw [Eu67, ga_rd_3, gi_rd_z, rd_3] at eu
                  have Eu70 := eu; clear eu
                  refine lv_aload_n hx hb dX5_readChoice_197 rfl (lv_at hl 3 rfl) ?_
                  refine lv_bipush (v := nI 125) hx hb dX5_readChoice_198 (by decide) ?_
                  rw [Eu70] at h
                  refine cl_X5_67 C h (hL 1 rfl) rfl (c_X5_skip l D cy ad Ls st hL hg40 hG hgp np hnp a69 p69_ z69 d69_ f69 (xset 160 w69 z62 z69) (nI 125)) (x_room (by omega)) ⟨Nat.zero_le _, Nat.zero_le _⟩ hl.1 (Nat.le_of_ble_eq_true rfl) dX5_readChoice_200 (fun r73 u72 H locs hp h => ?_)
                  obtain ⟨q74, a74, p74_, z74, d74_, f74, w74, e74_⟩ : ∃ y0 y1 y2 y3 y4 y5 y6, rSkip (ga st 11) np (nI 125) (a69, p69_, z69, d69_, f69, xset 160 w69 z62 z69) = (y0, y1, y2, y3, y4, y5, y6) := ⟨_, _, _, _, _, _, _, rfl⟩
                  obtain ⟨er, eu⟩ := hp; rw [e74_] at er eu; replace er : r73 = bi q74 := er; replace eu : u72 = rdS st g (a74, p74_, z74, d74_, f74, w74) := eu
                  refine x_topi er ?_; clear er r73
                  have Eu72 := eu; clear eu
                  have hF : rChoice (ga st 11) np il (rParts (ga st 11) np k il false) (a, p9, z, d, f, w) = (q74, (a74, p74_, z74, d74_, f74, w74)) := by
                    simp only [rChoice, rChoiceA, rChoiceB, rUp, rPt, rUp2, rAdd, rAim, if_true, if_false, Bool.false_eq_true, not_true_eq_false, not_false_eq_true, and_true, true_and, and_false, false_and, eq_self, decide_true, decide_false, Nat.lt_irrefl, Bool.not_eq_true, Bool.and_true, Bool.and_false, Bool.false_and, Bool.true_and, Bool.or_true, Bool.or_false, Bool.true_or, Bool.false_or, reduceCtorEq, c25, c48, c57, c87, c96, c122, c133, c183, e5_, e10_, e46_, e51_, e54_, e59_, e62_, e69_, e74_]
                  exact x_zret C hr hlocks (by first | rfl | exact bi_zn _ | decide) h ⟨by rw [hF], by rw [hF]; exact Eu72⟩ dX5_readChoice_203
                · refine lv_iconst (v := nI 0) hx hb dX5_readChoice_186 (by decide) ?_
                  have hF : rChoice (ga st 11) np il (rParts (ga st 11) np k il false) (a, p9, z, d, f, w) = (false, (a69, p69_, z69, d69_, f69, w69)) := by
                    simp only [rChoice, rChoiceA, rChoiceB, rUp, rPt, rUp2, rAdd, rAim, if_true, if_false, Bool.false_eq_true, not_true_eq_false, not_false_eq_true, and_true, true_and, and_false, false_and, eq_self, decide_true, decide_false, Nat.lt_irrefl, Bool.not_eq_true, Bool.and_true, Bool.and_false, Bool.false_and, Bool.true_and, Bool.or_true, Bool.or_false, Bool.true_or, Bool.false_or, reduceCtorEq, c25, c48, c57, c87, c96, c122, c133, c183, e5_, e10_, e46_, e51_, e54_, e59_, e62_, e69_]
                  exact x_zret C hr hlocks (by first | rfl | exact bi_zn _ | decide) h ⟨by rw [hF]; rfl, by rw [hF]; exact Eu67⟩ dX5_readChoice_187
              · refine lv_aload_n hx hb dX5_readChoice_136 rfl (lv_at hl 2 rfl) ?_
                refine gf_X5_21 C h (hL 1 rfl) rfl dX5_readChoice_137 ?_
                refine x_topref (q := ad (300 + 4 * g)) (by rw [Eu60, gp_rd, hgp]; rfl) ?_
                refine lv_iload hx hb dX5_readChoice_140 (lv_at hl 0 rfl) ?_
                refine cl_X5_71 C h (show 300 + 4 * g ∈ Ls from hG 0 (by decide)) (kd_f0 hg40) (c_X1_aimHere l D cy ad Ls u60 hg40 hG z54) (x_room (by omega)) ⟨Nat.zero_le _, Nat.zero_le _⟩ hl.1 (Nat.le_of_ble_eq_true rfl) dX5_readChoice_142 (fun u75 H locs hp h => ?_)
                have eu := hp; clear hp; rw [Eu60, ga_rd_3, gi_rd_z, rd_3] at eu
                have Eu75 := eu; clear eu
                refine lv_aload_n hx hb dX5_readChoice_145 rfl (lv_at hl 2 rfl) ?_
                refine lv_bipush (v := nI 125) hx hb dX5_readChoice_146 (by decide) ?_
                rw [Eu75] at h
                refine cl_X5_67 C h (hL 1 rfl) rfl (c_X5_skip l D cy ad Ls st hL hg40 hG hgp np hnp a62 p62_ z62 d62_ f62 (xset 160 w62 z54 z62) (nI 125)) (x_room (by omega)) ⟨Nat.zero_le _, Nat.zero_le _⟩ hl.1 (Nat.le_of_ble_eq_true rfl) dX5_readChoice_148 (fun r78 u77 H locs hp h => ?_)
                obtain ⟨q79, a79, p79_, z79, d79_, f79, w79, e79_⟩ : ∃ y0 y1 y2 y3 y4 y5 y6, rSkip (ga st 11) np (nI 125) (a62, p62_, z62, d62_, f62, xset 160 w62 z54 z62) = (y0, y1, y2, y3, y4, y5, y6) := ⟨_, _, _, _, _, _, _, rfl⟩
                obtain ⟨er, eu⟩ := hp; rw [e79_] at er eu; replace er : r78 = bi q79 := er; replace eu : u77 = rdS st g (a79, p79_, z79, d79_, f79, w79) := eu
                refine x_topi er ?_; clear er r78
                have Eu77 := eu; clear eu
                have hF : rChoice (ga st 11) np il (rParts (ga st 11) np k il false) (a, p9, z, d, f, w) = (q79, (a79, p79_, z79, d79_, f79, w79)) := by
                  simp only [rChoice, rChoiceA, rChoiceB, rUp, rPt, rUp2, rAdd, rAim, if_true, if_false, Bool.false_eq_true, not_true_eq_false, not_false_eq_true, and_true, true_and, and_false, false_and, eq_self, decide_true, decide_false, Nat.lt_irrefl, Bool.not_eq_true, Bool.and_true, Bool.and_false, Bool.false_and, Bool.true_and, Bool.or_true, Bool.or_false, Bool.true_or, Bool.false_or, reduceCtorEq, c25, c48, c57, c87, c96, c122, c133, e5_, e10_, e46_, e51_, e54_, e59_, e62_, e79_]
                exact x_zret C hr hlocks (by first | rfl | exact bi_zn _ | decide) h ⟨by rw [hF], by rw [hF]; exact Eu77⟩ dX5_readChoice_151
            · refine lv_iconst (v := nI 0) hx hb dX5_readChoice_125 (by decide) ?_
              have hF : rChoice (ga st 11) np il (rParts (ga st 11) np k il false) (a, p9, z, d, f, w) = (false, (a59, p59_, z59, d59_, f59, w59)) := by
                simp only [rChoice, rChoiceA, rChoiceB, rUp, rPt, rUp2, rAdd, rAim, if_true, if_false, Bool.false_eq_true, not_true_eq_false, not_false_eq_true, and_true, true_and, and_false, false_and, eq_self, decide_true, decide_false, Nat.lt_irrefl, Bool.not_eq_true, Bool.and_true, Bool.and_false, Bool.false_and, Bool.true_and, Bool.or_true, Bool.or_false, Bool.true_or, Bool.false_or, reduceCtorEq, c25, c48, c57, c87, c96, c122, e5_, e10_, e46_, e51_, e54_, e59_]
              exact x_zret C hr hlocks (by first | rfl | exact bi_zn _ | decide) h ⟨by rw [hF]; rfl, by rw [hF]; exact Eu57⟩ dX5_readChoice_126
          · refine lv_iconst (v := nI 0) hx hb dX5_readChoice_99 (by decide) ?_
            have hF : rChoice (ga st 11) np il (rParts (ga st 11) np k il false) (a, p9, z, d, f, w) = (false, (a54, p54_, z54, d54_, f54, w54)) := by
              simp only [rChoice, rChoiceA, rChoiceB, rUp, rPt, rUp2, rAdd, rAim, if_true, if_false, Bool.false_eq_true, not_true_eq_false, not_false_eq_true, and_true, true_and, and_false, false_and, eq_self, decide_true, decide_false, Nat.lt_irrefl, Bool.not_eq_true, Bool.and_true, Bool.and_false, Bool.false_and, Bool.true_and, Bool.or_true, Bool.or_false, Bool.true_or, Bool.false_or, reduceCtorEq, c25, c48, c57, c87, c96, e5_, e10_, e46_, e51_, e54_]
            exact x_zret C hr hlocks (by first | rfl | exact bi_zn _ | decide) h ⟨by rw [hF]; rfl, by rw [hF]; exact Eu52⟩ dX5_readChoice_100
      · refine lv_aload_n hx hb dX5_readChoice_60 rfl (lv_at hl 1 rfl) ?_
        refine lv_bipush (v := nI 61) hx hb dX5_readChoice_61 (by decide) ?_
        rw [Eu44] at h
        refine cl_X5_67 C h (hL 1 rfl) rfl (c_X5_skip l D cy ad Ls st hL hg40 hG hgp np hnp a46 p46_ z46 d46_ f46 w46 (nI 61)) (x_room (by omega)) ⟨Nat.zero_le _, Nat.zero_le _⟩ hl.1 (Nat.le_of_ble_eq_true rfl) dX5_readChoice_63 (fun r81 u80 H locs hp h => ?_)
        obtain ⟨q82, a82, p82_, z82, d82_, f82, w82, e82_⟩ : ∃ y0 y1 y2 y3 y4 y5 y6, rSkip (ga st 11) np (nI 61) (a46, p46_, z46, d46_, f46, w46) = (y0, y1, y2, y3, y4, y5, y6) := ⟨_, _, _, _, _, _, _, rfl⟩
        obtain ⟨er, eu⟩ := hp; rw [e82_] at er eu; replace er : r81 = bi q82 := er; replace eu : u80 = rdS st g (a82, p82_, z82, d82_, f82, w82) := eu
        refine x_topi er ?_; clear er r81
        have Eu80 := eu; clear eu
        refine x_ifb_ne (tgt := 71) hx hb dX5_readChoice_66 (by decide) (fun c66 => ?_) (fun c66 => ?_)
        · refine lv_aload_n hx hb dX5_readChoice_71 rfl (lv_at hl 1 rfl) ?_
          refine gf_X5_21 C h (hL 1 rfl) rfl dX5_readChoice_72 ?_
          refine x_topref (q := ad (300 + 4 * g)) (by rw [Eu80, gp_rd, hgp]; rfl) ?_
          refine lv_iconst (v := nI 4) hx hb dX5_readChoice_75 (by decide) ?_
          refine lv_iconst (v := nI 0) hx hb dX5_readChoice_76 (by decide) ?_
          refine lv_iconst (v := nI 0) hx hb dX5_readChoice_77 (by decide) ?_
          refine cl_X5_48 C h (show 300 + 4 * g ∈ Ls from hG 0 (by decide)) (kd_f0 hg40) (c_X1_add l D cy ad Ls u80 hg40 hG z82 (by rw [Eu80]; exact gi_rd_z ..) (nI 4) (nI 0) (nI 0)) (x_room (by omega)) ⟨Nat.zero_le _, Nat.zero_le _⟩ hl.1 (Nat.le_of_ble_eq_true rfl) dX5_readChoice_78 (fun r84 u83 H locs hp h => ?_)
          obtain ⟨er, eu⟩ := hp; rw [Eu80, ga_rd_1, ga_rd_2, ga_rd_3, rd_1, rd_2, rd_3, rd_z] at eu; refine x_topi er ?_; clear er r84
          have Eu83 := eu; clear eu
          refine lv_pop hx hb dX5_readChoice_81 rfl ?_
          refine lv_aload_n hx hb dX5_readChoice_82 rfl (lv_at hl 1 rfl) ?_
          refine lv_iload_n hx hb dX5_readChoice_83 rfl (lv_at hl 3 rfl) ?_
          rw [Eu83] at h
          refine cl_X5_64 C h (hL 1 rfl) rfl (c_X5_readSum l D cy ad Ls st hL hg40 hG hgp np hnp a82 p82_ (z82 + nI 1) (xset 160 d82_ z82 (nI 4)) (xset 160 f82 z82 (nI 0)) (xset 160 w82 z82 (nI 0)) il) (x_room (by omega)) ⟨Nat.zero_le _, Nat.zero_le _⟩ hl.1 (Nat.le_of_ble_eq_true rfl) dX5_readChoice_84 (fun r86 u85 H locs hp h => ?_)
          obtain ⟨q87, a87, p87_, z87, d87_, f87, w87, e87_⟩ : ∃ y0 y1 y2 y3 y4 y5 y6, rSum (ga st 11) np il (a82, p82_, z82 + nI 1, xset 160 d82_ z82 (nI 4), xset 160 f82 z82 (nI 0), xset 160 w82 z82 (nI 0)) = (y0, y1, y2, y3, y4, y5, y6) := ⟨_, _, _, _, _, _, _, rfl⟩
          obtain ⟨er, eu⟩ := hp; rw [e87_] at er eu; replace er : r86 = bi q87 := er; replace eu : u85 = rdS st g (a87, p87_, z87, d87_, f87, w87) := eu
          refine x_topi er ?_; clear er r86
          have Eu85 := eu; clear eu
          refine x_ifb_eq (tgt := 99) hx hb dX5_readChoice_87 (by decide) (fun c87 => ?_) (fun c87 => ?_)
          · refine lv_iconst (v := nI 0) hx hb dX5_readChoice_99 (by decide) ?_
            have hF : rChoice (ga st 11) np il (rParts (ga st 11) np k il false) (a, p9, z, d, f, w) = (false, (a87, p87_, z87, d87_, f87, w87)) := by
              simp only [rChoice, rChoiceA, rChoiceB, rUp, rPt, rUp2, rAdd, rAim, if_true, if_false, Bool.false_eq_true, not_true_eq_false, not_false_eq_true, and_true, true_and, and_false, false_and, eq_self, decide_true, decide_false, Nat.lt_irrefl, Bool.not_eq_true, Bool.and_true, Bool.and_false, Bool.false_and, Bool.true_and, Bool.or_true, Bool.or_false, Bool.true_or, Bool.false_or, reduceCtorEq, c25, c48, c57, c66, c87, e5_, e10_, e46_, e82_, e87_]
            exact x_zret C hr hlocks (by first | rfl | exact bi_zn _ | decide) h ⟨by rw [hF]; rfl, by rw [hF]; exact Eu85⟩ dX5_readChoice_100
          · refine lv_aload_n hx hb dX5_readChoice_90 rfl (lv_at hl 1 rfl) ?_
            refine lv_bipush (v := nI 58) hx hb dX5_readChoice_91 (by decide) ?_
            rw [Eu85] at h
            refine cl_X5_67 C h (hL 1 rfl) rfl (c_X5_skip l D cy ad Ls st hL hg40 hG hgp np hnp a87 p87_ z87 d87_ f87 w87 (nI 58)) (x_room (by omega)) ⟨Nat.zero_le _, Nat.zero_le _⟩ hl.1 (Nat.le_of_ble_eq_true rfl) dX5_readChoice_93 (fun r89 u88 H locs hp h => ?_)
            obtain ⟨q90, a90, p90_, z90, d90_, f90, w90, e90_⟩ : ∃ y0 y1 y2 y3 y4 y5 y6, rSkip (ga st 11) np (nI 58) (a87, p87_, z87, d87_, f87, w87) = (y0, y1, y2, y3, y4, y5, y6) := ⟨_, _, _, _, _, _, _, rfl⟩
            obtain ⟨er, eu⟩ := hp; rw [e90_] at er eu; replace er : r89 = bi q90 := er; replace eu : u88 = rdS st g (a90, p90_, z90, d90_, f90, w90) := eu
            refine x_topi er ?_; clear er r89
            have Eu88 := eu; clear eu
            refine x_ifb_ne (tgt := 101) hx hb dX5_readChoice_96 (by decide) (fun c96 => ?_) (fun c96 => ?_)
            · refine lv_aload_n hx hb dX5_readChoice_101 rfl (lv_at hl 1 rfl) ?_
              refine gf_X5_21 C h (hL 1 rfl) rfl dX5_readChoice_102 ?_
              refine x_topref (q := ad (300 + 4 * g)) (by rw [Eu88, gp_rd, hgp]; rfl) ?_
              refine lv_iconst (v := nI 5) hx hb dX5_readChoice_105 (by decide) ?_
              refine lv_iload_n hx hb dX5_readChoice_106 rfl (lv_at hl 0 rfl) ?_
              refine lv_iconst (v := nI 0) hx hb dX5_readChoice_107 (by decide) ?_
              refine cl_X5_48 C h (show 300 + 4 * g ∈ Ls from hG 0 (by decide)) (kd_f0 hg40) (c_X1_add l D cy ad Ls u88 hg40 hG z90 (by rw [Eu88]; exact gi_rd_z ..) (nI 5) (sgF (ga st 11) np a5) (nI 0)) (x_room (by omega)) ⟨Nat.zero_le _, Nat.zero_le _⟩ hl.1 (Nat.le_of_ble_eq_true rfl) dX5_readChoice_108 (fun r92 u91 H locs hp h => ?_)
              obtain ⟨er, eu⟩ := hp; rw [Eu88, ga_rd_1, ga_rd_2, ga_rd_3, rd_1, rd_2, rd_3, rd_z] at eu; refine x_topi er ?_; clear er r92
              have Eu91 := eu; clear eu
              refine lv_istore (lv' := [(4, .int z90), (3, .int (sgF (ga st 11) np a5)), (0, .ref (ad 1)), (1, .int (nI dp)), (2, .int (bi il))]) hx hb dX5_readChoice_111 hl (by decide) rfl (fun ls hl => ?_)
              refine lv_aload_n hx hb dX5_readChoice_113 rfl (lv_at hl 2 rfl) ?_
              refine lv_iload_n hx hb dX5_readChoice_114 rfl (lv_at hl 3 rfl) ?_
              refine lv_iconst (v := nI 1) hx hb dX5_readChoice_115 (by decide) ?_
              refine x_addN hx hb dX5_readChoice_116 ?_
              refine lv_iload_n hx hb dX5_readChoice_117 rfl (lv_at hl 4 rfl) ?_
              refine lv_iconst (v := nI 0) hx hb dX5_readChoice_118 (by decide) ?_
              rw [Eu91] at h
              refine cl_X5_35 C h (hL 1 rfl) rfl (hPT a90 p90_ (z90 + nI 1) (xset 160 d90_ z90 (nI 5)) (xset 160 f90 z90 (sgF (ga st 11) np a5)) (xset 160 w90 z90 (nI 0)) il false) (x_room (by omega)) ⟨Nat.zero_le _, Nat.zero_le _⟩ hl.1 (Nat.le_of_ble_eq_true rfl) dX5_readChoice_119 (fun r94 u93 H locs hp h => ?_)
              obtain ⟨q95, a95, p95_, z95, d95_, f95, w95, e95_⟩ : ∃ y0 y1 y2 y3 y4 y5 y6, rParts (ga st 11) np k il false (a90, p90_, z90 + nI 1, xset 160 d90_ z90 (nI 5), xset 160 f90 z90 (sgF (ga st 11) np a5), xset 160 w90 z90 (nI 0)) = (y0, y1, y2, y3, y4, y5, y6) := ⟨_, _, _, _, _, _, _, rfl⟩
              obtain ⟨er, eu⟩ := hp; rw [e95_] at er eu; replace er : r94 = bi q95 := er; replace eu : u93 = rdS st g (a95, p95_, z95, d95_, f95, w95) := eu
              refine x_topi er ?_; clear er r94
              have Eu93 := eu; clear eu
              refine x_ifb_ne (tgt := 127) hx hb dX5_readChoice_122 (by decide) (fun c122 => ?_) (fun c122 => ?_)
              · refine lv_aload_n hx hb dX5_readChoice_127 rfl (lv_at hl 2 rfl) ?_
                refine lv_bipush (v := nI 124) hx hb dX5_readChoice_128 (by decide) ?_
                rw [Eu93] at h
                refine cl_X5_67 C h (hL 1 rfl) rfl (c_X5_skip l D cy ad Ls st hL hg40 hG hgp np hnp a95 p95_ z95 d95_ f95 w95 (nI 124)) (x_room (by omega)) ⟨Nat.zero_le _, Nat.zero_le _⟩ hl.1 (Nat.le_of_ble_eq_true rfl) dX5_readChoice_130 (fun r97 u96 H locs hp h => ?_)
                obtain ⟨q98, a98, p98_, z98, d98_, f98, w98, e98_⟩ : ∃ y0 y1 y2 y3 y4 y5 y6, rSkip (ga st 11) np (nI 124) (a95, p95_, z95, d95_, f95, w95) = (y0, y1, y2, y3, y4, y5, y6) := ⟨_, _, _, _, _, _, _, rfl⟩
                obtain ⟨er, eu⟩ := hp; rw [e98_] at er eu; replace er : r97 = bi q98 := er; replace eu : u96 = rdS st g (a98, p98_, z98, d98_, f98, w98) := eu
                refine x_topi er ?_; clear er r97
                have Eu96 := eu; clear eu
                refine x_ifb_ne (tgt := 152) hx hb dX5_readChoice_133 (by decide) (fun c133 => ?_) (fun c133 => ?_)
                · refine lv_aload_n hx hb dX5_readChoice_152 rfl (lv_at hl 2 rfl) ?_
                  refine gf_X5_21 C h (hL 1 rfl) rfl dX5_readChoice_153 ?_
                  refine x_topref (q := ad (300 + 4 * g)) (by rw [Eu96, gp_rd, hgp]; rfl) ?_
                  refine lv_bipush (v := nI 6) hx hb dX5_readChoice_156 (by decide) ?_
                  refine lv_iconst (v := nI 0) hx hb dX5_readChoice_158 (by decide) ?_
                  refine lv_iconst (v := nI 0) hx hb dX5_readChoice_159 (by decide) ?_
                  refine cl_X5_48 C h (show 300 + 4 * g ∈ Ls from hG 0 (by decide)) (kd_f0 hg40) (c_X1_add l D cy ad Ls u96 hg40 hG z98 (by rw [Eu96]; exact gi_rd_z ..) (nI 6) (nI 0) (nI 0)) (x_room (by omega)) ⟨Nat.zero_le _, Nat.zero_le _⟩ hl.1 (Nat.le_of_ble_eq_true rfl) dX5_readChoice_160 (fun r100 u99 H locs hp h => ?_)
                  obtain ⟨er, eu⟩ := hp; rw [Eu96, ga_rd_1, ga_rd_2, ga_rd_3, rd_1, rd_2, rd_3, rd_z] at eu; refine x_topi er ?_; clear er r100
                  have Eu99 := eu; clear eu
                  refine lv_istore (lv' := [(5, .int z98), (4, .int z90), (3, .int (sgF (ga st 11) np a5)), (0, .ref (ad 1)), (1, .int (nI dp)), (2, .int (bi il))]) hx hb dX5_readChoice_163 hl (by decide) rfl (fun ls hl => ?_)
                  refine lv_aload_n hx hb dX5_readChoice_165 rfl (lv_at hl 3 rfl) ?_
                  refine gf_X5_21 C h (hL 1 rfl) rfl dX5_readChoice_166 ?_
                  refine x_topref (q := ad (300 + 4 * g)) (by rw [Eu99, gp_rd, hgp]; rfl) ?_
                  refine lv_iload hx hb dX5_readChoice_169 (lv_at hl 1 rfl) ?_
                  refine cl_X5_71 C h (show 300 + 4 * g ∈ Ls from hG 0 (by decide)) (kd_f0 hg40) (c_X1_aimHere l D cy ad Ls u99 hg40 hG z90) (x_room (by omega)) ⟨Nat.zero_le _, Nat.zero_le _⟩ hl.1 (Nat.le_of_ble_eq_true rfl) dX5_readChoice_171 (fun u101 H locs hp h => ?_)
                  have eu := hp; clear hp; rw [Eu99, ga_rd_3, gi_rd_z, rd_3] at eu
                  have Eu101 := eu; clear eu
                  refine lv_aload_n hx hb dX5_readChoice_174 rfl (lv_at hl 3 rfl) ?_
                  refine lv_iload_n hx hb dX5_readChoice_175 rfl (lv_at hl 4 rfl) ?_
                  refine lv_iconst (v := nI 1) hx hb dX5_readChoice_176 (by decide) ?_
                  refine x_addN hx hb dX5_readChoice_177 ?_
                  refine lv_iload_n hx hb dX5_readChoice_178 rfl (lv_at hl 5 rfl) ?_
                  refine lv_iconst (v := nI 0) hx hb dX5_readChoice_179 (by decide) ?_
                  rw [Eu101] at h
                  refine cl_X5_35 C h (hL 1 rfl) rfl (hPT a98 p98_ (z98 + nI 1) (xset 160 d98_ z98 (nI 6)) (xset 160 f98 z98 (nI 0)) (xset 160 (xset 160 w98 z98 (nI 0)) z90 (z98 + nI 1)) il false) (x_room (by omega)) ⟨Nat.zero_le _, Nat.zero_le _⟩ hl.1 (Nat.le_of_ble_eq_true rfl) dX5_readChoice_180 (fun r104 u103 H locs hp h => ?_)
                  obtain ⟨q105, a105, p105_, z105, d105_, f105, w105, e105_⟩ : ∃ y0 y1 y2 y3 y4 y5 y6, rParts (ga st 11) np k il false (a98, p98_, z98 + nI 1, xset 160 d98_ z98 (nI 6), xset 160 f98 z98 (nI 0), xset 160 (xset 160 w98 z98 (nI 0)) z90 (z98 + nI 1)) = (y0, y1, y2, y3, y4, y5, y6) := ⟨_, _, _, _, _, _, _, rfl⟩
                  obtain ⟨er, eu⟩ := hp; rw [e105_] at er eu; replace er : r104 = bi q105 := er; replace eu : u103 = rdS st g (a105, p105_, z105, d105_, f105, w105) := eu
                  refine x_topi er ?_; clear er r104
                  have Eu103 := eu; clear eu
                  refine x_ifb_ne (tgt := 188) hx hb dX5_readChoice_183 (by decide) (fun c183 => ?_) (fun c183 => ?_)
                  · refine lv_aload_n hx hb dX5_readChoice_188 rfl (lv_at hl 3 rfl) ?_
                    refine gf_X5_21 C h (hL 1 rfl) rfl dX5_readChoice_189 ?_
                    refine x_topref (q := ad (300 + 4 * g)) (by rw [Eu103, gp_rd, hgp]; rfl) ?_
                    refine lv_iload hx hb dX5_readChoice_192 (lv_at hl 0 rfl) ?_
                    refine cl_X5_71 C h (show 300 + 4 * g ∈ Ls from hG 0 (by decide)) (kd_f0 hg40) (c_X1_aimHere l D cy ad Ls u103 hg40 hG z98) (x_room (by omega)) ⟨Nat.zero_le _, Nat.zero_le _⟩ hl.1 (Nat.le_of_ble_eq_true rfl) dX5_readChoice_194 (fun u106 H locs hp h => ?_)
                    have eu := hp; clear hp; rw [Eu103, ga_rd_3, gi_rd_z, rd_3] at eu
                    have Eu106 := eu; clear eu
                    refine lv_aload_n hx hb dX5_readChoice_197 rfl (lv_at hl 3 rfl) ?_
                    refine lv_bipush (v := nI 125) hx hb dX5_readChoice_198 (by decide) ?_
                    rw [Eu106] at h
                    refine cl_X5_67 C h (hL 1 rfl) rfl (c_X5_skip l D cy ad Ls st hL hg40 hG hgp np hnp a105 p105_ z105 d105_ f105 (xset 160 w105 z98 z105) (nI 125)) (x_room (by omega)) ⟨Nat.zero_le _, Nat.zero_le _⟩ hl.1 (Nat.le_of_ble_eq_true rfl) dX5_readChoice_200 (fun r109 u108 H locs hp h => ?_)
                    obtain ⟨q110, a110, p110_, z110, d110_, f110, w110, e110_⟩ : ∃ y0 y1 y2 y3 y4 y5 y6, rSkip (ga st 11) np (nI 125) (a105, p105_, z105, d105_, f105, xset 160 w105 z98 z105) = (y0, y1, y2, y3, y4, y5, y6) := ⟨_, _, _, _, _, _, _, rfl⟩
                    obtain ⟨er, eu⟩ := hp; rw [e110_] at er eu; replace er : r109 = bi q110 := er; replace eu : u108 = rdS st g (a110, p110_, z110, d110_, f110, w110) := eu
                    refine x_topi er ?_; clear er r109
                    have Eu108 := eu; clear eu
                    have hF : rChoice (ga st 11) np il (rParts (ga st 11) np k il false) (a, p9, z, d, f, w) = (q110, (a110, p110_, z110, d110_, f110, w110)) := by
                      simp only [rChoice, rChoiceA, rChoiceB, rUp, rPt, rUp2, rAdd, rAim, if_true, if_false, Bool.false_eq_true, not_true_eq_false, not_false_eq_true, and_true, true_and, and_false, false_and, eq_self, decide_true, decide_false, Nat.lt_irrefl, Bool.not_eq_true, Bool.and_true, Bool.and_false, Bool.false_and, Bool.true_and, Bool.or_true, Bool.or_false, Bool.true_or, Bool.false_or, reduceCtorEq, c25, c48, c57, c66, c87, c96, c122, c133, c183, e5_, e10_, e46_, e82_, e87_, e90_, e95_, e98_, e105_, e110_]
                    exact x_zret C hr hlocks (by first | rfl | exact bi_zn _ | decide) h ⟨by rw [hF], by rw [hF]; exact Eu108⟩ dX5_readChoice_203
                  · refine lv_iconst (v := nI 0) hx hb dX5_readChoice_186 (by decide) ?_
                    have hF : rChoice (ga st 11) np il (rParts (ga st 11) np k il false) (a, p9, z, d, f, w) = (false, (a105, p105_, z105, d105_, f105, w105)) := by
                      simp only [rChoice, rChoiceA, rChoiceB, rUp, rPt, rUp2, rAdd, rAim, if_true, if_false, Bool.false_eq_true, not_true_eq_false, not_false_eq_true, and_true, true_and, and_false, false_and, eq_self, decide_true, decide_false, Nat.lt_irrefl, Bool.not_eq_true, Bool.and_true, Bool.and_false, Bool.false_and, Bool.true_and, Bool.or_true, Bool.or_false, Bool.true_or, Bool.false_or, reduceCtorEq, c25, c48, c57, c66, c87, c96, c122, c133, c183, e5_, e10_, e46_, e82_, e87_, e90_, e95_, e98_, e105_]
                    exact x_zret C hr hlocks (by first | rfl | exact bi_zn _ | decide) h ⟨by rw [hF]; rfl, by rw [hF]; exact Eu103⟩ dX5_readChoice_187
                · refine lv_aload_n hx hb dX5_readChoice_136 rfl (lv_at hl 2 rfl) ?_
                  refine gf_X5_21 C h (hL 1 rfl) rfl dX5_readChoice_137 ?_
                  refine x_topref (q := ad (300 + 4 * g)) (by rw [Eu96, gp_rd, hgp]; rfl) ?_
                  refine lv_iload hx hb dX5_readChoice_140 (lv_at hl 0 rfl) ?_
                  refine cl_X5_71 C h (show 300 + 4 * g ∈ Ls from hG 0 (by decide)) (kd_f0 hg40) (c_X1_aimHere l D cy ad Ls u96 hg40 hG z90) (x_room (by omega)) ⟨Nat.zero_le _, Nat.zero_le _⟩ hl.1 (Nat.le_of_ble_eq_true rfl) dX5_readChoice_142 (fun u111 H locs hp h => ?_)
                  have eu := hp; clear hp; rw [Eu96, ga_rd_3, gi_rd_z, rd_3] at eu
                  have Eu111 := eu; clear eu
                  refine lv_aload_n hx hb dX5_readChoice_145 rfl (lv_at hl 2 rfl) ?_
                  refine lv_bipush (v := nI 125) hx hb dX5_readChoice_146 (by decide) ?_
                  rw [Eu111] at h
                  refine cl_X5_67 C h (hL 1 rfl) rfl (c_X5_skip l D cy ad Ls st hL hg40 hG hgp np hnp a98 p98_ z98 d98_ f98 (xset 160 w98 z90 z98) (nI 125)) (x_room (by omega)) ⟨Nat.zero_le _, Nat.zero_le _⟩ hl.1 (Nat.le_of_ble_eq_true rfl) dX5_readChoice_148 (fun r114 u113 H locs hp h => ?_)
                  obtain ⟨q115, a115, p115_, z115, d115_, f115, w115, e115_⟩ : ∃ y0 y1 y2 y3 y4 y5 y6, rSkip (ga st 11) np (nI 125) (a98, p98_, z98, d98_, f98, xset 160 w98 z90 z98) = (y0, y1, y2, y3, y4, y5, y6) := ⟨_, _, _, _, _, _, _, rfl⟩
                  obtain ⟨er, eu⟩ := hp; rw [e115_] at er eu; replace er : r114 = bi q115 := er; replace eu : u113 = rdS st g (a115, p115_, z115, d115_, f115, w115) := eu
                  refine x_topi er ?_; clear er r114
                  have Eu113 := eu; clear eu
                  have hF : rChoice (ga st 11) np il (rParts (ga st 11) np k il false) (a, p9, z, d, f, w) = (q115, (a115, p115_, z115, d115_, f115, w115)) := by
                    simp only [rChoice, rChoiceA, rChoiceB, rUp, rPt, rUp2, rAdd, rAim, if_true, if_false, Bool.false_eq_true, not_true_eq_false, not_false_eq_true, and_true, true_and, and_false, false_and, eq_self, decide_true, decide_false, Nat.lt_irrefl, Bool.not_eq_true, Bool.and_true, Bool.and_false, Bool.false_and, Bool.true_and, Bool.or_true, Bool.or_false, Bool.true_or, Bool.false_or, reduceCtorEq, c25, c48, c57, c66, c87, c96, c122, c133, e5_, e10_, e46_, e82_, e87_, e90_, e95_, e98_, e115_]
                  exact x_zret C hr hlocks (by first | rfl | exact bi_zn _ | decide) h ⟨by rw [hF], by rw [hF]; exact Eu113⟩ dX5_readChoice_151
              · refine lv_iconst (v := nI 0) hx hb dX5_readChoice_125 (by decide) ?_
                have hF : rChoice (ga st 11) np il (rParts (ga st 11) np k il false) (a, p9, z, d, f, w) = (false, (a95, p95_, z95, d95_, f95, w95)) := by
                  simp only [rChoice, rChoiceA, rChoiceB, rUp, rPt, rUp2, rAdd, rAim, if_true, if_false, Bool.false_eq_true, not_true_eq_false, not_false_eq_true, and_true, true_and, and_false, false_and, eq_self, decide_true, decide_false, Nat.lt_irrefl, Bool.not_eq_true, Bool.and_true, Bool.and_false, Bool.false_and, Bool.true_and, Bool.or_true, Bool.or_false, Bool.true_or, Bool.false_or, reduceCtorEq, c25, c48, c57, c66, c87, c96, c122, e5_, e10_, e46_, e82_, e87_, e90_, e95_]
                exact x_zret C hr hlocks (by first | rfl | exact bi_zn _ | decide) h ⟨by rw [hF]; rfl, by rw [hF]; exact Eu93⟩ dX5_readChoice_126
            · refine lv_iconst (v := nI 0) hx hb dX5_readChoice_99 (by decide) ?_
              have hF : rChoice (ga st 11) np il (rParts (ga st 11) np k il false) (a, p9, z, d, f, w) = (false, (a90, p90_, z90, d90_, f90, w90)) := by
                simp only [rChoice, rChoiceA, rChoiceB, rUp, rPt, rUp2, rAdd, rAim, if_true, if_false, Bool.false_eq_true, not_true_eq_false, not_false_eq_true, and_true, true_and, and_false, false_and, eq_self, decide_true, decide_false, Nat.lt_irrefl, Bool.not_eq_true, Bool.and_true, Bool.and_false, Bool.false_and, Bool.true_and, Bool.or_true, Bool.or_false, Bool.true_or, Bool.false_or, reduceCtorEq, c25, c48, c57, c66, c87, c96, e5_, e10_, e46_, e82_, e87_, e90_]
              exact x_zret C hr hlocks (by first | rfl | exact bi_zn _ | decide) h ⟨by rw [hF]; rfl, by rw [hF]; exact Eu88⟩ dX5_readChoice_100
        · refine lv_iconst (v := nI 0) hx hb dX5_readChoice_69 (by decide) ?_
          have hF : rChoice (ga st 11) np il (rParts (ga st 11) np k il false) (a, p9, z, d, f, w) = (false, (a82, p82_, z82, d82_, f82, w82)) := by
            simp only [rChoice, rChoiceA, rChoiceB, rUp, rPt, rUp2, rAdd, rAim, if_true, if_false, Bool.false_eq_true, not_true_eq_false, not_false_eq_true, and_true, true_and, and_false, false_and, eq_self, decide_true, decide_false, Nat.lt_irrefl, Bool.not_eq_true, Bool.and_true, Bool.and_false, Bool.false_and, Bool.true_and, Bool.or_true, Bool.or_false, Bool.true_or, Bool.false_or, reduceCtorEq, c25, c48, c57, c66, e5_, e10_, e46_, e82_]
          exact x_zret C hr hlocks (by first | rfl | exact bi_zn _ | decide) h ⟨by rw [hF]; rfl, by rw [hF]; exact Eu80⟩ dX5_readChoice_70
  · refine lv_iconst (v := nI 0) hx hb dX5_readChoice_28 (by decide) ?_
    have hF : rChoice (ga st 11) np il (rParts (ga st 11) np k il false) (a, p9, z, d, f, w) = (false, (a5, p5_, z5, d5_, f5, w5)) := by
      simp only [rChoice, rChoiceA, rChoiceB, rUp, rPt, rUp2, rAdd, rAim, if_true, if_false, Bool.false_eq_true, not_true_eq_false, not_false_eq_true, and_true, true_and, and_false, false_and, eq_self, decide_true, decide_false, Nat.lt_irrefl, Bool.not_eq_true, Bool.and_true, Bool.and_false, Bool.false_and, Bool.true_and, Bool.or_true, Bool.or_false, Bool.true_or, Bool.false_or, reduceCtorEq, c25, e5_]
    exact x_zret C hr hlocks (by first | rfl | exact bi_zn _ | decide) h ⟨by rw [hF]; rfl, by rw [hF]; exact Eu3⟩ dX5_readChoice_29

set_option maxHeartbeats 4000000 in
set_option maxRecDepth 100000 in
theorem c_X5_readParts0 (l : Launch) (D : va_G) (cy : Nat → ClassId) (ad : Nat → Nat) (Ls : List Nat) (st : XS) (hL : ∀ k, xC k = true → k ∈ Ls) {g : Nat} (hg40 : g < 40) (hG : ∀ j, j < 4 → 300 + 4 * g + j ∈ Ls) (hgp : gp st 1 1 = some (300 + 4 * g)) (np : Nat) (hnp : gi st 1 2 = nI np) (a p9 z : Int32) (d f w : Nat → Int32) (dp : Nat) (hdp : dp = 5) (il ol : Bool) : xMi l yX5_readParts cX5_readParts 7 (some .boolean) (10 + 3 * 0) D cy ad Ls (rdS st g (a, p9, z, d, f, w)) [.ref (ad 1), .int (nI dp), .int (bi il), .int (bi ol)] (fun r u => r = bi (rParts (ga st 11) np 0 il ol (a, p9, z, d, f, w)).1 ∧ u = rdS st g (rParts (ga st 11) np 0 il ol (a, p9, z, d, f, w)).2) := by
  intro sz
  refine x_of sz (by decide +kernel) (Nat.le_of_ble_eq_true rfl) ?_
  intro p e s m args below meth c ls hx hb hr hlocks C hsz h hl
  have hl : lv_has ls 7 [(0, .ref (ad 1)), (1, .int (nI dp)), (2, .int (bi il)), (3, .int (bi ol))] := hl
  obtain ⟨H, eH⟩ : ∃ z, z = s.heap := ⟨_, rfl⟩
  obtain ⟨locs, eL⟩ : ∃ z : List Loc, z = [] := ⟨_, rfl⟩
  rw [← eH, ← eL] at h
  rw [← eH, ← eL]
  clear eH eL
  obtain ⟨v, hv⟩ : ∃ v, v = rdS st g (a, p9, z, d, f, w) := ⟨_, rfl⟩
  rw [← hv] at h
  refine lv_iconst (v := nI 0) hx hb dX5_readParts_0 (by decide) ?_
  refine lv_istore (lv' := [(4, .int (nI 0)), (0, .ref (ad 1)), (1, .int (nI dp)), (2, .int (bi il)), (3, .int (bi ol))]) hx hb dX5_readParts_1 hl (by decide) rfl (fun ls hl => ?_)
  have L3 : ∀ (N3 : Nat) (v9 : XS) (aa : Int32) (pp : Int32) (zz : Int32) (dd : Nat → Int32) (ff : Nat → Int32) (ww : Nat → Int32) (t : Nat) (hv9 : v9 = rdS st g (aa, pp, zz, dd, ff, ww)) (hq : rParts (ga st 11) np 0 il ol (a, p9, z, d, f, w) = rPartsL (ga st 11) np rNo rNo il ol (160 - t) (aa, pp, zz, dd, ff, ww)) (ht : t ≤ 160) (hN : 160 - t < N3) (H : Heap) (locs : List Loc) (ls : Array Slot), xH D cy ad Ls (XA ad Ls sz) s v9 H locs → lv_has ls 7 [(0, .ref (ad 1)), (1, .int (nI dp)), (2, .int (bi il)), (3, .int (bi ol)), (4, .int (nI t))] → W p l e (xR (10 + 3 * 0)) s m args below meth c H locs 0 0 (MQ below (va_Qi (fun r u => r = bi (rParts (ga st 11) np 0 il ol (a, p9, z, d, f, w)).1 ∧ u = rdS st g (rParts (ga st 11) np 0 il ol (a, p9, z, d, f, w)).2) (fun u => xPost D cy ad Ls (XA ad Ls sz) u) (XA ad Ls sz)) args s 0 0 (XA ad Ls sz)) (F0 m 3 ls []) := by
    intro N3
    induction N3 with
    | zero => intro v9 aa pp zz dd ff ww t hv9 hq ht hN; omega
    | succ N3 ih3 =>
      intro v9 aa pp zz dd ff ww t hv9 hq ht hN H locs ls h hl
      refine lv_iload hx hb dX5_readParts_3 (lv_at hl 4 rfl) ?_
      refine lv_sipush (v := nI 160) hx hb dX5_readParts_5 (by decide) ?_
      refine x_icmpN_ge (tgt := 194) hx hb dX5_readParts_8 (by decide) (by omega) (by omega) (fun c8 => ?_) (fun c8 => ?_)
      · refine lv_iconst (v := nI 1) hx hb dX5_readParts_194 (by decide) ?_
        have hF : rParts (ga st 11) np 0 il ol (a, p9, z, d, f, w) = (true, (aa, pp, zz, dd, ff, ww)) := by rw [hq, show 160 - t = 0 by omega, rPartsL]
        exact x_zret C hr hlocks (by first | rfl | exact bi_zn _ | decide) h ⟨by rw [hF]; rfl, by rw [hF]; exact hv9⟩ dX5_readParts_195
      · refine lv_aload_n hx hb dX5_readParts_11 rfl (lv_at hl 0 rfl) ?_
        refine gf_X5_12 C h (hL 1 rfl) rfl (k2 := 2) rfl dX5_readParts_12 ?_
        refine lv_aload_n hx hb dX5_readParts_15 rfl (lv_at hl 0 rfl) ?_
        refine gf_X5_29 C h (hL 1 rfl) rfl dX5_readParts_16 ?_
        refine x_topi (y := aa) (by rw [hv9]; exact gi_rd_a ..) ?_
        refine cl_X5_40 C h (hL 2 rfl) rfl (c_X3_signAt l D cy ad Ls v9 hL np (by rw [hv9, gi_rd_o (by decide) (by decide) (by omega)]; exact hnp) aa) (x_room (by omega)) ⟨Nat.zero_le _, Nat.zero_le _⟩ hl.1 (Nat.le_of_ble_eq_true rfl) dX5_readParts_19 (fun r2 u1 H locs hp h => ?_)
        obtain ⟨er2, eu1⟩ := hp; rw [eu1] at h; clear eu1 u1; refine x_topi er2 ?_; clear er2 r2
        refine x_topi (y := sgF (ga st 11) np aa) (by rw [hv9, ga_rd_o (by decide)]) ?_
        refine lv_istore (lv' := [(5, .int (sgF (ga st 11) np aa)), (0, .ref (ad 1)), (1, .int (nI dp)), (2, .int (bi il)), (3, .int (bi ol)), (4, .int (nI t))]) hx hb dX5_readParts_22 hl (by decide) rfl (fun ls hl => ?_)
        refine lv_iload hx hb dX5_readParts_24 (lv_at hl 0 rfl) ?_
        refine lv_if_eq (tgt := 54) hx hb dX5_readParts_26 (by decide) (fun c26 => ?_) (fun c26 => ?_)
        · refine lv_iconst (v := nI 1) hx hb dX5_readParts_54 (by decide) ?_
          have hF : rParts (ga st 11) np 0 il ol (a, p9, z, d, f, w) = (true, (aa, pp, zz, dd, ff, ww)) := by
            rw [hq, show 160 - t = (159 - t) + 1 by omega, rPartsL]
            simp only [k123_0, k123_124, k123_125, k63_42, rStop, rPart, rNo, rUp, rAdd, if_true, if_false, Bool.false_eq_true, eq_self, reduceCtorEq, decide_true, decide_false, Bool.or_true, Bool.or_false, Bool.true_or, Bool.false_or, Bool.and_true, Bool.and_false, Bool.true_and, Bool.false_and, c26]
          exact x_zret C hr hlocks (by first | rfl | exact bi_zn _ | decide) h ⟨by rw [hF]; rfl, by rw [hF]; exact hv9⟩ dX5_readParts_55
        · refine lv_iload hx hb dX5_readParts_29 (lv_at hl 0 rfl) ?_
          refine lv_bipush (v := nI 124) hx hb dX5_readParts_31 (by decide) ?_
          refine lv_icmp_eq (tgt := 54) hx hb dX5_readParts_33 (by decide) (fun c33 => ?_) (fun c33 => ?_)
          · refine lv_iconst (v := nI 1) hx hb dX5_readParts_54 (by decide) ?_
            have hF : rParts (ga st 11) np 0 il ol (a, p9, z, d, f, w) = (true, (aa, pp, zz, dd, ff, ww)) := by
              rw [hq, show 160 - t = (159 - t) + 1 by omega, rPartsL]
              simp only [k123_0, k123_124, k123_125, k63_42, rStop, rPart, rNo, rUp, rAdd, if_true, if_false, Bool.false_eq_true, eq_self, reduceCtorEq, decide_true, decide_false, Bool.or_true, Bool.or_false, Bool.true_or, Bool.false_or, Bool.and_true, Bool.and_false, Bool.true_and, Bool.false_and, c26, c33]
            exact x_zret C hr hlocks (by first | rfl | exact bi_zn _ | decide) h ⟨by rw [hF]; rfl, by rw [hF]; exact hv9⟩ dX5_readParts_55
          · refine lv_iload hx hb dX5_readParts_36 (lv_at hl 0 rfl) ?_
            refine lv_bipush (v := nI 125) hx hb dX5_readParts_38 (by decide) ?_
            refine lv_icmp_eq (tgt := 54) hx hb dX5_readParts_40 (by decide) (fun c40 => ?_) (fun c40 => ?_)
            · refine lv_iconst (v := nI 1) hx hb dX5_readParts_54 (by decide) ?_
              have hF : rParts (ga st 11) np 0 il ol (a, p9, z, d, f, w) = (true, (aa, pp, zz, dd, ff, ww)) := by
                rw [hq, show 160 - t = (159 - t) + 1 by omega, rPartsL]
                simp only [k123_0, k123_124, k123_125, k63_42, rStop, rPart, rNo, rUp, rAdd, if_true, if_false, Bool.false_eq_true, eq_self, reduceCtorEq, decide_true, decide_false, Bool.or_true, Bool.or_false, Bool.true_or, Bool.false_or, Bool.and_true, Bool.and_false, Bool.true_and, Bool.false_and, c26, c33, c40]
              exact x_zret C hr hlocks (by first | rfl | exact bi_zn _ | decide) h ⟨by rw [hF]; rfl, by rw [hF]; exact hv9⟩ dX5_readParts_55
            · refine lv_iload_n hx hb dX5_readParts_43 rfl (lv_at hl 4 rfl) ?_
              refine x_ifb_eq (tgt := 56) hx hb dX5_readParts_44 (by decide) (fun c44 => ?_) (fun c44 => ?_)
              · refine lv_aload_n hx hb dX5_readParts_56 rfl (lv_at hl 1 rfl) ?_
                refine lv_dup hx hb dX5_readParts_57 rfl ?_
                refine gf_X5_29 C h (hL 1 rfl) rfl dX5_readParts_58 ?_
                refine x_topi (y := aa) (by rw [hv9]; exact gi_rd_a ..) ?_
                refine lv_iconst (v := nI 1) hx hb dX5_readParts_61 (by decide) ?_
                refine lv_iadd hx hb dX5_readParts_62 ?_
                refine pf_X5_29 C h (hL 1 rfl) rfl dX5_readParts_63 (fun H locs u3 eu3 h => ?_)
                rw [hv9, rd_a] at eu3
                refine lv_iconst (v := nI 1) hx hb dX5_readParts_66 (by decide) ?_
                refine lv_istore (lv' := [(6, .int (nI 1)), (5, .int (sgF (ga st 11) np aa)), (0, .ref (ad 1)), (1, .int (nI dp)), (2, .int (bi il)), (3, .int (bi ol)), (4, .int (nI t))]) hx hb dX5_readParts_67 hl (by decide) rfl (fun ls hl => ?_)
                refine lv_iload hx hb dX5_readParts_69 (lv_at hl 1 rfl) ?_
                refine lv_bipush (v := nI 123) hx hb dX5_readParts_71 (by decide) ?_
                refine lv_icmp_eq (tgt := 91) hx hb dX5_readParts_73 (by decide) (fun c73 => ?_) (fun c73 => ?_)
                · refine lv_aload_n hx hb dX5_readParts_91 rfl (lv_at hl 2 rfl) ?_
                  refine gf_X5_12 C h (hL 1 rfl) rfl (k2 := 2) rfl dX5_readParts_92 ?_
                  refine lv_aload_n hx hb dX5_readParts_95 rfl (lv_at hl 2 rfl) ?_
                  refine gf_X5_29 C h (hL 1 rfl) rfl dX5_readParts_96 ?_
                  refine x_topi (y := aa + (nI 1)) (by rw [eu3]; exact gi_rd_a ..) ?_
                  refine cl_X5_40 C h (hL 2 rfl) rfl (c_X3_signAt l D cy ad Ls u3 hL np (by rw [eu3, gi_rd_o (by decide) (by decide) (by omega)]; exact hnp) (aa + (nI 1))) (x_room (by omega)) ⟨Nat.zero_le _, Nat.zero_le _⟩ hl.1 (Nat.le_of_ble_eq_true rfl) dX5_readParts_99 (fun r5 u4 H locs hp h => ?_)
                  obtain ⟨er5, eu4⟩ := hp; rw [eu4] at h; clear eu4 u4; refine x_topi er5 ?_; clear er5 r5
                  refine x_topi (y := sgF (ga st 11) np (aa + (nI 1))) (by rw [eu3, ga_rd_o (by decide)]) ?_
                  refine lv_bipush (v := nI 42) hx hb dX5_readParts_102 (by decide) ?_
                  refine lv_icmp_ne (tgt := 134) hx hb dX5_readParts_104 (by decide) (fun c104 => ?_) (fun c104 => ?_)
                  · refine lv_aload_n hx hb dX5_readParts_134 rfl (lv_at hl 2 rfl) ?_
                    refine gf_X5_12 C h (hL 1 rfl) rfl (k2 := 2) rfl dX5_readParts_135 ?_
                    refine lv_aload_n hx hb dX5_readParts_138 rfl (lv_at hl 2 rfl) ?_
                    refine gf_X5_29 C h (hL 1 rfl) rfl dX5_readParts_139 ?_
                    refine x_topi (y := aa + (nI 1)) (by rw [eu3]; exact gi_rd_a ..) ?_
                    refine cl_X5_40 C h (hL 2 rfl) rfl (c_X3_signAt l D cy ad Ls u3 hL np (by rw [eu3, gi_rd_o (by decide) (by decide) (by omega)]; exact hnp) (aa + (nI 1))) (x_room (by omega)) ⟨Nat.zero_le _, Nat.zero_le _⟩ hl.1 (Nat.le_of_ble_eq_true rfl) dX5_readParts_142 (fun r7 u6 H locs hp h => ?_)
                    obtain ⟨er7, eu6⟩ := hp; rw [eu6] at h; clear eu6 u6; refine x_topi er7 ?_; clear er7 r7
                    refine x_topi (y := sgF (ga st 11) np (aa + (nI 1))) (by rw [eu3, ga_rd_o (by decide)]) ?_
                    refine lv_bipush (v := nI 63) hx hb dX5_readParts_145 (by decide) ?_
                    refine lv_icmp_ne (tgt := 174) hx hb dX5_readParts_147 (by decide) (fun c147 => ?_) (fun c147 => ?_)
                    · refine lv_aload_n hx hb dX5_readParts_174 rfl (lv_at hl 2 rfl) ?_
                      refine lv_iload_n hx hb dX5_readParts_175 rfl (lv_at hl 4 rfl) ?_
                      rw [eu3] at h
                      refine cl_X5_60 C h (hL 1 rfl) rfl (c_X5_readField l D cy ad Ls st hL hg40 hG hgp np hnp (aa + (nI 1)) pp zz dd ff ww il) (x_room (by omega)) ⟨Nat.zero_le _, Nat.zero_le _⟩ hl.1 (Nat.le_of_ble_eq_true rfl) dX5_readParts_176 (fun r9 u8 H locs hp h => ?_)
                      obtain ⟨q10, a10, p10_, z10, d10_, f10, w10, e10_⟩ : ∃ y0 y1 y2 y3 y4 y5 y6, rField (ga st 11) np il (aa + (nI 1), pp, zz, dd, ff, ww) = (y0, y1, y2, y3, y4, y5, y6) := ⟨_, _, _, _, _, _, _, rfl⟩
                      obtain ⟨er, eu⟩ := hp; rw [e10_] at er eu; replace er : r9 = bi q10 := er; replace eu : u8 = rdS st g (a10, p10_, z10, d10_, f10, w10) := eu
                      refine x_topi er ?_; clear er r9
                      have Eu8 := eu; clear eu
                      refine lv_istore (lv' := [(6, .int (bi q10)), (5, .int (sgF (ga st 11) np aa)), (0, .ref (ad 1)), (1, .int (nI dp)), (2, .int (bi il)), (3, .int (bi ol)), (4, .int (nI t))]) hx hb dX5_readParts_179 hl (by decide) rfl (fun ls hl => ?_)
                      refine lv_iload hx hb dX5_readParts_181 (lv_at hl 0 rfl) ?_
                      refine x_ifb_ne (tgt := 188) hx hb dX5_readParts_183 (by decide) (fun c183 => ?_) (fun c183 => ?_)
                      · refine lv_iinc (v := nI (t + 1)) (lv' := [(4, .int (nI (t + 1))), (6, .int (bi q10)), (5, .int (sgF (ga st 11) np aa)), (0, .ref (ad 1)), (1, .int (nI dp)), (2, .int (bi il)), (3, .int (bi ol))]) hx hb dX5_readParts_188 hl (k := 6) rfl (nI_add _ _) (by decide) rfl (fun ls hl => ?_)
                        refine lv_goto (tgt := 3) hx hb dX5_readParts_191 (by decide) ?_
                        exact ih3 u8 a10 p10_ z10 d10_ f10 w10 (t + 1) Eu8 (by rw [hq, show 160 - t = (160 - (t + 1)) + 1 by omega, rPartsL]; simp only [k123_0, k123_124, k123_125, k63_42, rStop, rPart, rNo, rUp, rAdd, if_true, if_false, Bool.false_eq_true, eq_self, reduceCtorEq, decide_true, decide_false, Bool.or_true, Bool.or_false, Bool.true_or, Bool.false_or, Bool.and_true, Bool.and_false, Bool.true_and, Bool.false_and, c26, c33, c40, c44, c73, c104, c147, c183, e10_]) (by omega) (by omega) H locs ls h (lv_sub hl [3, 4, 5, 6, 0] rfl)
                      · refine lv_iconst (v := nI 0) hx hb dX5_readParts_186 (by decide) ?_
                        have hF : rParts (ga st 11) np 0 il ol (a, p9, z, d, f, w) = (false, (a10, p10_, z10, d10_, f10, w10)) := by
                          rw [hq, show 160 - t = (159 - t) + 1 by omega, rPartsL]
                          simp only [k123_0, k123_124, k123_125, k63_42, rStop, rPart, rNo, rUp, rAdd, if_true, if_false, Bool.false_eq_true, eq_self, reduceCtorEq, decide_true, decide_false, Bool.or_true, Bool.or_false, Bool.true_or, Bool.false_or, Bool.and_true, Bool.and_false, Bool.true_and, Bool.false_and, c26, c33, c40, c44, c73, c104, c147, c183, e10_]
                        exact x_zret C hr hlocks (by first | rfl | exact bi_zn _ | decide) h ⟨by rw [hF]; rfl, by rw [hF]; exact Eu8⟩ dX5_readParts_187
                    · refine lv_iload_n hx hb dX5_readParts_150 rfl (lv_at hl 3 rfl) ?_
                      refine lv_iconst (v := nI 5) hx hb dX5_readParts_151 (by decide) ?_
                      refine x_icmpN_ge (tgt := 168) hx hb dX5_readParts_152 (by decide) (by omega) (by omega) (fun c152 => ?_) (fun c152 => ?_)
                      · refine lv_iconst (v := nI 0) hx hb dX5_readParts_168 (by decide) ?_
                        refine lv_istore (lv' := [(6, .int (nI 0)), (5, .int (sgF (ga st 11) np aa)), (0, .ref (ad 1)), (1, .int (nI dp)), (2, .int (bi il)), (3, .int (bi ol)), (4, .int (nI t))]) hx hb dX5_readParts_169 hl (by decide) rfl (fun ls hl => ?_)
                        refine lv_goto (tgt := 181) hx hb dX5_readParts_171 (by decide) ?_
                        refine lv_iload hx hb dX5_readParts_181 (lv_at hl 0 rfl) ?_
                        refine x_ifN_ne (tgt := 188) hx hb dX5_readParts_183 (by decide) (by decide) (fun z9 => absurd z9 (by decide)) (fun _ => ?_)
                        refine lv_iconst (v := nI 0) hx hb dX5_readParts_186 (by decide) ?_
                        have hF : rParts (ga st 11) np 0 il ol (a, p9, z, d, f, w) = (false, (aa + (nI 1), pp, zz, dd, ff, ww)) := by
                          rw [hq, show 160 - t = (159 - t) + 1 by omega, rPartsL]
                          simp only [k123_0, k123_124, k123_125, k63_42, rStop, rPart, rNo, rUp, rAdd, if_true, if_false, Bool.false_eq_true, eq_self, reduceCtorEq, decide_true, decide_false, Bool.or_true, Bool.or_false, Bool.true_or, Bool.false_or, Bool.and_true, Bool.and_false, Bool.true_and, Bool.false_and, c26, c33, c40, c44, c73, c104, c147, c152]
                        exact x_zret C hr hlocks (by first | rfl | exact bi_zn _ | decide) h ⟨by rw [hF]; rfl, by rw [hF]; exact eu3⟩ dX5_readParts_187
                      · exact absurd c152 (by omega)
                  · refine lv_iload_n hx hb dX5_readParts_107 rfl (lv_at hl 4 rfl) ?_
                    refine x_ifb_ne (tgt := 128) hx hb dX5_readParts_108 (by decide) (fun c108 => ?_) (fun c108 => ?_)
                    · refine lv_iconst (v := nI 0) hx hb dX5_readParts_128 (by decide) ?_
                      refine lv_istore (lv' := [(6, .int (nI 0)), (5, .int (sgF (ga st 11) np aa)), (0, .ref (ad 1)), (1, .int (nI dp)), (2, .int (bi il)), (3, .int (bi ol)), (4, .int (nI t))]) hx hb dX5_readParts_129 hl (by decide) rfl (fun ls hl => ?_)
                      refine lv_goto (tgt := 181) hx hb dX5_readParts_131 (by decide) ?_
                      refine lv_iload hx hb dX5_readParts_181 (lv_at hl 0 rfl) ?_
                      refine x_ifN_ne (tgt := 188) hx hb dX5_readParts_183 (by decide) (by decide) (fun z9 => absurd z9 (by decide)) (fun _ => ?_)
                      refine lv_iconst (v := nI 0) hx hb dX5_readParts_186 (by decide) ?_
                      have hF : rParts (ga st 11) np 0 il ol (a, p9, z, d, f, w) = (false, (aa + (nI 1), pp, zz, dd, ff, ww)) := by
                        rw [hq, show 160 - t = (159 - t) + 1 by omega, rPartsL]
                        simp only [k123_0, k123_124, k123_125, k63_42, rStop, rPart, rNo, rUp, rAdd, if_true, if_false, Bool.false_eq_true, eq_self, reduceCtorEq, decide_true, decide_false, Bool.or_true, Bool.or_false, Bool.true_or, Bool.false_or, Bool.and_true, Bool.and_false, Bool.true_and, Bool.false_and, c26, c33, c40, c44, c73, c104, c108]
                      exact x_zret C hr hlocks (by first | rfl | exact bi_zn _ | decide) h ⟨by rw [hF]; rfl, by rw [hF]; exact eu3⟩ dX5_readParts_187
                    · refine lv_iload_n hx hb dX5_readParts_111 rfl (lv_at hl 3 rfl) ?_
                      refine lv_iconst (v := nI 5) hx hb dX5_readParts_112 (by decide) ?_
                      refine x_icmpN_ge (tgt := 128) hx hb dX5_readParts_113 (by decide) (by omega) (by omega) (fun c113 => ?_) (fun c113 => ?_)
                      · refine lv_iconst (v := nI 0) hx hb dX5_readParts_128 (by decide) ?_
                        refine lv_istore (lv' := [(6, .int (nI 0)), (5, .int (sgF (ga st 11) np aa)), (0, .ref (ad 1)), (1, .int (nI dp)), (2, .int (bi il)), (3, .int (bi ol)), (4, .int (nI t))]) hx hb dX5_readParts_129 hl (by decide) rfl (fun ls hl => ?_)
                        refine lv_goto (tgt := 181) hx hb dX5_readParts_131 (by decide) ?_
                        refine lv_iload hx hb dX5_readParts_181 (lv_at hl 0 rfl) ?_
                        refine x_ifN_ne (tgt := 188) hx hb dX5_readParts_183 (by decide) (by decide) (fun z9 => absurd z9 (by decide)) (fun _ => ?_)
                        refine lv_iconst (v := nI 0) hx hb dX5_readParts_186 (by decide) ?_
                        have hF : rParts (ga st 11) np 0 il ol (a, p9, z, d, f, w) = (false, (aa + (nI 1), pp, zz, dd, ff, ww)) := by
                          rw [hq, show 160 - t = (159 - t) + 1 by omega, rPartsL]
                          simp only [k123_0, k123_124, k123_125, k63_42, rStop, rPart, rNo, rUp, rAdd, if_true, if_false, Bool.false_eq_true, eq_self, reduceCtorEq, decide_true, decide_false, Bool.or_true, Bool.or_false, Bool.true_or, Bool.false_or, Bool.and_true, Bool.and_false, Bool.true_and, Bool.false_and, c26, c33, c40, c44, c73, c104, c108, c113]
                        exact x_zret C hr hlocks (by first | rfl | exact bi_zn _ | decide) h ⟨by rw [hF]; rfl, by rw [hF]; exact eu3⟩ dX5_readParts_187
                      · exact absurd c113 (by omega)
                · refine lv_aload_n hx hb dX5_readParts_76 rfl (lv_at hl 2 rfl) ?_
                  refine gf_X5_21 C h (hL 1 rfl) rfl dX5_readParts_77 ?_
                  refine x_topref (q := ad (300 + 4 * g)) (by rw [eu3, gp_rd, hgp]; rfl) ?_
                  refine lv_iconst (v := nI 0) hx hb dX5_readParts_80 (by decide) ?_
                  refine lv_iload hx hb dX5_readParts_81 (lv_at hl 1 rfl) ?_
                  refine lv_iconst (v := nI 0) hx hb dX5_readParts_83 (by decide) ?_
                  refine cl_X5_48 C h (show 300 + 4 * g ∈ Ls from hG 0 (by decide)) (kd_f0 hg40) (c_X1_add l D cy ad Ls u3 hg40 hG zz (by rw [eu3]; exact gi_rd_z ..) (nI 0) (sgF (ga st 11) np aa) (nI 0)) (x_room (by omega)) ⟨Nat.zero_le _, Nat.zero_le _⟩ hl.1 (Nat.le_of_ble_eq_true rfl) dX5_readParts_84 (fun r12 u11 H locs hp h => ?_)
                  obtain ⟨er, eu⟩ := hp; rw [eu3, ga_rd_1, ga_rd_2, ga_rd_3, rd_1, rd_2, rd_3, rd_z] at eu; refine x_topi er ?_; clear er r12
                  have Eu11 := eu; clear eu
                  refine lv_pop hx hb dX5_readParts_87 rfl ?_
                  refine lv_goto (tgt := 181) hx hb dX5_readParts_88 (by decide) ?_
                  refine lv_iload hx hb dX5_readParts_181 (lv_at hl 0 rfl) ?_
                  refine x_ifN_ne (tgt := 188) hx hb dX5_readParts_183 (by decide) (by decide) (fun _ => ?_) (fun z9 => absurd z9 (by decide))
                  refine lv_iinc (v := nI (t + 1)) (lv' := [(4, .int (nI (t + 1))), (6, .int (nI 1)), (5, .int (sgF (ga st 11) np aa)), (0, .ref (ad 1)), (1, .int (nI dp)), (2, .int (bi il)), (3, .int (bi ol))]) hx hb dX5_readParts_188 hl (k := 6) rfl (nI_add _ _) (by decide) rfl (fun ls hl => ?_)
                  refine lv_goto (tgt := 3) hx hb dX5_readParts_191 (by decide) ?_
                  exact ih3 u11 (aa + (nI 1)) pp (zz + nI 1) (xset 160 dd zz (nI 0)) (xset 160 ff zz (sgF (ga st 11) np aa)) (xset 160 ww zz (nI 0)) (t + 1) Eu11 (by rw [hq, show 160 - t = (160 - (t + 1)) + 1 by omega, rPartsL]; simp only [k123_0, k123_124, k123_125, k63_42, rStop, rPart, rNo, rUp, rAdd, if_true, if_false, Bool.false_eq_true, eq_self, reduceCtorEq, decide_true, decide_false, Bool.or_true, Bool.or_false, Bool.true_or, Bool.false_or, Bool.and_true, Bool.and_false, Bool.true_and, Bool.false_and, c26, c33, c40, c44, c73]) (by omega) (by omega) H locs ls h (lv_sub hl [3, 4, 5, 6, 0] rfl)
              · refine lv_aload_n hx hb dX5_readParts_47 rfl (lv_at hl 1 rfl) ?_
                rw [hv9] at h
                refine cl_X5_44 C h (hL 1 rfl) rfl (c_X5_endsLoop l D cy ad Ls st hL hg40 hG hgp np hnp aa pp zz dd ff ww) (x_room (by omega)) ⟨Nat.zero_le _, Nat.zero_le _⟩ hl.1 (Nat.le_of_ble_eq_true rfl) dX5_readParts_48 (fun r14 u13 H locs hp h => ?_)
                obtain ⟨er, eu⟩ := hp; refine x_topi er ?_; clear er r14; have Eu13 := eu; clear eu
                refine x_ifb_eq (tgt := 56) hx hb dX5_readParts_51 (by decide) (fun c51 => ?_) (fun c51 => ?_)
                · refine lv_aload_n hx hb dX5_readParts_56 rfl (lv_at hl 1 rfl) ?_
                  refine lv_dup hx hb dX5_readParts_57 rfl ?_
                  refine gf_X5_29 C h (hL 1 rfl) rfl dX5_readParts_58 ?_
                  refine x_topi (y := aa) (by rw [Eu13]; exact gi_rd_a ..) ?_
                  refine lv_iconst (v := nI 1) hx hb dX5_readParts_61 (by decide) ?_
                  refine lv_iadd hx hb dX5_readParts_62 ?_
                  refine pf_X5_29 C h (hL 1 rfl) rfl dX5_readParts_63 (fun H locs u16 eu16 h => ?_)
                  rw [Eu13, rd_a] at eu16
                  refine lv_iconst (v := nI 1) hx hb dX5_readParts_66 (by decide) ?_
                  refine lv_istore (lv' := [(6, .int (nI 1)), (5, .int (sgF (ga st 11) np aa)), (0, .ref (ad 1)), (1, .int (nI dp)), (2, .int (bi il)), (3, .int (bi ol)), (4, .int (nI t))]) hx hb dX5_readParts_67 hl (by decide) rfl (fun ls hl => ?_)
                  refine lv_iload hx hb dX5_readParts_69 (lv_at hl 1 rfl) ?_
                  refine lv_bipush (v := nI 123) hx hb dX5_readParts_71 (by decide) ?_
                  refine lv_icmp_eq (tgt := 91) hx hb dX5_readParts_73 (by decide) (fun c73 => ?_) (fun c73 => ?_)
                  · refine lv_aload_n hx hb dX5_readParts_91 rfl (lv_at hl 2 rfl) ?_
                    refine gf_X5_12 C h (hL 1 rfl) rfl (k2 := 2) rfl dX5_readParts_92 ?_
                    refine lv_aload_n hx hb dX5_readParts_95 rfl (lv_at hl 2 rfl) ?_
                    refine gf_X5_29 C h (hL 1 rfl) rfl dX5_readParts_96 ?_
                    refine x_topi (y := aa + (nI 1)) (by rw [eu16]; exact gi_rd_a ..) ?_
                    refine cl_X5_40 C h (hL 2 rfl) rfl (c_X3_signAt l D cy ad Ls u16 hL np (by rw [eu16, gi_rd_o (by decide) (by decide) (by omega)]; exact hnp) (aa + (nI 1))) (x_room (by omega)) ⟨Nat.zero_le _, Nat.zero_le _⟩ hl.1 (Nat.le_of_ble_eq_true rfl) dX5_readParts_99 (fun r18 u17 H locs hp h => ?_)
                    obtain ⟨er18, eu17⟩ := hp; rw [eu17] at h; clear eu17 u17; refine x_topi er18 ?_; clear er18 r18
                    refine x_topi (y := sgF (ga st 11) np (aa + (nI 1))) (by rw [eu16, ga_rd_o (by decide)]) ?_
                    refine lv_bipush (v := nI 42) hx hb dX5_readParts_102 (by decide) ?_
                    refine lv_icmp_ne (tgt := 134) hx hb dX5_readParts_104 (by decide) (fun c104 => ?_) (fun c104 => ?_)
                    · refine lv_aload_n hx hb dX5_readParts_134 rfl (lv_at hl 2 rfl) ?_
                      refine gf_X5_12 C h (hL 1 rfl) rfl (k2 := 2) rfl dX5_readParts_135 ?_
                      refine lv_aload_n hx hb dX5_readParts_138 rfl (lv_at hl 2 rfl) ?_
                      refine gf_X5_29 C h (hL 1 rfl) rfl dX5_readParts_139 ?_
                      refine x_topi (y := aa + (nI 1)) (by rw [eu16]; exact gi_rd_a ..) ?_
                      refine cl_X5_40 C h (hL 2 rfl) rfl (c_X3_signAt l D cy ad Ls u16 hL np (by rw [eu16, gi_rd_o (by decide) (by decide) (by omega)]; exact hnp) (aa + (nI 1))) (x_room (by omega)) ⟨Nat.zero_le _, Nat.zero_le _⟩ hl.1 (Nat.le_of_ble_eq_true rfl) dX5_readParts_142 (fun r20 u19 H locs hp h => ?_)
                      obtain ⟨er20, eu19⟩ := hp; rw [eu19] at h; clear eu19 u19; refine x_topi er20 ?_; clear er20 r20
                      refine x_topi (y := sgF (ga st 11) np (aa + (nI 1))) (by rw [eu16, ga_rd_o (by decide)]) ?_
                      refine lv_bipush (v := nI 63) hx hb dX5_readParts_145 (by decide) ?_
                      refine lv_icmp_ne (tgt := 174) hx hb dX5_readParts_147 (by decide) (fun c147 => ?_) (fun c147 => ?_)
                      · refine lv_aload_n hx hb dX5_readParts_174 rfl (lv_at hl 2 rfl) ?_
                        refine lv_iload_n hx hb dX5_readParts_175 rfl (lv_at hl 4 rfl) ?_
                        rw [eu16] at h
                        refine cl_X5_60 C h (hL 1 rfl) rfl (c_X5_readField l D cy ad Ls st hL hg40 hG hgp np hnp (aa + (nI 1)) pp zz dd ff ww il) (x_room (by omega)) ⟨Nat.zero_le _, Nat.zero_le _⟩ hl.1 (Nat.le_of_ble_eq_true rfl) dX5_readParts_176 (fun r22 u21 H locs hp h => ?_)
                        obtain ⟨q23, a23, p23_, z23, d23_, f23, w23, e23_⟩ : ∃ y0 y1 y2 y3 y4 y5 y6, rField (ga st 11) np il (aa + (nI 1), pp, zz, dd, ff, ww) = (y0, y1, y2, y3, y4, y5, y6) := ⟨_, _, _, _, _, _, _, rfl⟩
                        obtain ⟨er, eu⟩ := hp; rw [e23_] at er eu; replace er : r22 = bi q23 := er; replace eu : u21 = rdS st g (a23, p23_, z23, d23_, f23, w23) := eu
                        refine x_topi er ?_; clear er r22
                        have Eu21 := eu; clear eu
                        refine lv_istore (lv' := [(6, .int (bi q23)), (5, .int (sgF (ga st 11) np aa)), (0, .ref (ad 1)), (1, .int (nI dp)), (2, .int (bi il)), (3, .int (bi ol)), (4, .int (nI t))]) hx hb dX5_readParts_179 hl (by decide) rfl (fun ls hl => ?_)
                        refine lv_iload hx hb dX5_readParts_181 (lv_at hl 0 rfl) ?_
                        refine x_ifb_ne (tgt := 188) hx hb dX5_readParts_183 (by decide) (fun c183 => ?_) (fun c183 => ?_)
                        · refine lv_iinc (v := nI (t + 1)) (lv' := [(4, .int (nI (t + 1))), (6, .int (bi q23)), (5, .int (sgF (ga st 11) np aa)), (0, .ref (ad 1)), (1, .int (nI dp)), (2, .int (bi il)), (3, .int (bi ol))]) hx hb dX5_readParts_188 hl (k := 6) rfl (nI_add _ _) (by decide) rfl (fun ls hl => ?_)
                          refine lv_goto (tgt := 3) hx hb dX5_readParts_191 (by decide) ?_
                          exact ih3 u21 a23 p23_ z23 d23_ f23 w23 (t + 1) Eu21 (by rw [hq, show 160 - t = (160 - (t + 1)) + 1 by omega, rPartsL]; simp only [k123_0, k123_124, k123_125, k63_42, rStop, rPart, rNo, rUp, rAdd, if_true, if_false, Bool.false_eq_true, eq_self, reduceCtorEq, decide_true, decide_false, Bool.or_true, Bool.or_false, Bool.true_or, Bool.false_or, Bool.and_true, Bool.and_false, Bool.true_and, Bool.false_and, c26, c33, c40, c44, c51, c73, c104, c147, c183, e23_]) (by omega) (by omega) H locs ls h (lv_sub hl [3, 4, 5, 6, 0] rfl)
                        · refine lv_iconst (v := nI 0) hx hb dX5_readParts_186 (by decide) ?_
                          have hF : rParts (ga st 11) np 0 il ol (a, p9, z, d, f, w) = (false, (a23, p23_, z23, d23_, f23, w23)) := by
                            rw [hq, show 160 - t = (159 - t) + 1 by omega, rPartsL]
                            simp only [k123_0, k123_124, k123_125, k63_42, rStop, rPart, rNo, rUp, rAdd, if_true, if_false, Bool.false_eq_true, eq_self, reduceCtorEq, decide_true, decide_false, Bool.or_true, Bool.or_false, Bool.true_or, Bool.false_or, Bool.and_true, Bool.and_false, Bool.true_and, Bool.false_and, c26, c33, c40, c44, c51, c73, c104, c147, c183, e23_]
                          exact x_zret C hr hlocks (by first | rfl | exact bi_zn _ | decide) h ⟨by rw [hF]; rfl, by rw [hF]; exact Eu21⟩ dX5_readParts_187
                      · refine lv_iload_n hx hb dX5_readParts_150 rfl (lv_at hl 3 rfl) ?_
                        refine lv_iconst (v := nI 5) hx hb dX5_readParts_151 (by decide) ?_
                        refine x_icmpN_ge (tgt := 168) hx hb dX5_readParts_152 (by decide) (by omega) (by omega) (fun c152 => ?_) (fun c152 => ?_)
                        · refine lv_iconst (v := nI 0) hx hb dX5_readParts_168 (by decide) ?_
                          refine lv_istore (lv' := [(6, .int (nI 0)), (5, .int (sgF (ga st 11) np aa)), (0, .ref (ad 1)), (1, .int (nI dp)), (2, .int (bi il)), (3, .int (bi ol)), (4, .int (nI t))]) hx hb dX5_readParts_169 hl (by decide) rfl (fun ls hl => ?_)
                          refine lv_goto (tgt := 181) hx hb dX5_readParts_171 (by decide) ?_
                          refine lv_iload hx hb dX5_readParts_181 (lv_at hl 0 rfl) ?_
                          refine x_ifN_ne (tgt := 188) hx hb dX5_readParts_183 (by decide) (by decide) (fun z9 => absurd z9 (by decide)) (fun _ => ?_)
                          refine lv_iconst (v := nI 0) hx hb dX5_readParts_186 (by decide) ?_
                          have hF : rParts (ga st 11) np 0 il ol (a, p9, z, d, f, w) = (false, (aa + (nI 1), pp, zz, dd, ff, ww)) := by
                            rw [hq, show 160 - t = (159 - t) + 1 by omega, rPartsL]
                            simp only [k123_0, k123_124, k123_125, k63_42, rStop, rPart, rNo, rUp, rAdd, if_true, if_false, Bool.false_eq_true, eq_self, reduceCtorEq, decide_true, decide_false, Bool.or_true, Bool.or_false, Bool.true_or, Bool.false_or, Bool.and_true, Bool.and_false, Bool.true_and, Bool.false_and, c26, c33, c40, c44, c51, c73, c104, c147, c152]
                          exact x_zret C hr hlocks (by first | rfl | exact bi_zn _ | decide) h ⟨by rw [hF]; rfl, by rw [hF]; exact eu16⟩ dX5_readParts_187
                        · exact absurd c152 (by omega)
                    · refine lv_iload_n hx hb dX5_readParts_107 rfl (lv_at hl 4 rfl) ?_
                      refine x_ifb_ne (tgt := 128) hx hb dX5_readParts_108 (by decide) (fun c108 => ?_) (fun c108 => ?_)
                      · refine lv_iconst (v := nI 0) hx hb dX5_readParts_128 (by decide) ?_
                        refine lv_istore (lv' := [(6, .int (nI 0)), (5, .int (sgF (ga st 11) np aa)), (0, .ref (ad 1)), (1, .int (nI dp)), (2, .int (bi il)), (3, .int (bi ol)), (4, .int (nI t))]) hx hb dX5_readParts_129 hl (by decide) rfl (fun ls hl => ?_)
                        refine lv_goto (tgt := 181) hx hb dX5_readParts_131 (by decide) ?_
                        refine lv_iload hx hb dX5_readParts_181 (lv_at hl 0 rfl) ?_
                        refine x_ifN_ne (tgt := 188) hx hb dX5_readParts_183 (by decide) (by decide) (fun z9 => absurd z9 (by decide)) (fun _ => ?_)
                        refine lv_iconst (v := nI 0) hx hb dX5_readParts_186 (by decide) ?_
                        have hF : rParts (ga st 11) np 0 il ol (a, p9, z, d, f, w) = (false, (aa + (nI 1), pp, zz, dd, ff, ww)) := by
                          rw [hq, show 160 - t = (159 - t) + 1 by omega, rPartsL]
                          simp only [k123_0, k123_124, k123_125, k63_42, rStop, rPart, rNo, rUp, rAdd, if_true, if_false, Bool.false_eq_true, eq_self, reduceCtorEq, decide_true, decide_false, Bool.or_true, Bool.or_false, Bool.true_or, Bool.false_or, Bool.and_true, Bool.and_false, Bool.true_and, Bool.false_and, c26, c33, c40, c44, c51, c73, c104, c108]
                        exact x_zret C hr hlocks (by first | rfl | exact bi_zn _ | decide) h ⟨by rw [hF]; rfl, by rw [hF]; exact eu16⟩ dX5_readParts_187
                      · refine lv_iload_n hx hb dX5_readParts_111 rfl (lv_at hl 3 rfl) ?_
                        refine lv_iconst (v := nI 5) hx hb dX5_readParts_112 (by decide) ?_
                        refine x_icmpN_ge (tgt := 128) hx hb dX5_readParts_113 (by decide) (by omega) (by omega) (fun c113 => ?_) (fun c113 => ?_)
                        · refine lv_iconst (v := nI 0) hx hb dX5_readParts_128 (by decide) ?_
                          refine lv_istore (lv' := [(6, .int (nI 0)), (5, .int (sgF (ga st 11) np aa)), (0, .ref (ad 1)), (1, .int (nI dp)), (2, .int (bi il)), (3, .int (bi ol)), (4, .int (nI t))]) hx hb dX5_readParts_129 hl (by decide) rfl (fun ls hl => ?_)
                          refine lv_goto (tgt := 181) hx hb dX5_readParts_131 (by decide) ?_
                          refine lv_iload hx hb dX5_readParts_181 (lv_at hl 0 rfl) ?_
                          refine x_ifN_ne (tgt := 188) hx hb dX5_readParts_183 (by decide) (by decide) (fun z9 => absurd z9 (by decide)) (fun _ => ?_)
                          refine lv_iconst (v := nI 0) hx hb dX5_readParts_186 (by decide) ?_
                          have hF : rParts (ga st 11) np 0 il ol (a, p9, z, d, f, w) = (false, (aa + (nI 1), pp, zz, dd, ff, ww)) := by
                            rw [hq, show 160 - t = (159 - t) + 1 by omega, rPartsL]
                            simp only [k123_0, k123_124, k123_125, k63_42, rStop, rPart, rNo, rUp, rAdd, if_true, if_false, Bool.false_eq_true, eq_self, reduceCtorEq, decide_true, decide_false, Bool.or_true, Bool.or_false, Bool.true_or, Bool.false_or, Bool.and_true, Bool.and_false, Bool.true_and, Bool.false_and, c26, c33, c40, c44, c51, c73, c104, c108, c113]
                          exact x_zret C hr hlocks (by first | rfl | exact bi_zn _ | decide) h ⟨by rw [hF]; rfl, by rw [hF]; exact eu16⟩ dX5_readParts_187
                        · exact absurd c113 (by omega)
                  · refine lv_aload_n hx hb dX5_readParts_76 rfl (lv_at hl 2 rfl) ?_
                    refine gf_X5_21 C h (hL 1 rfl) rfl dX5_readParts_77 ?_
                    refine x_topref (q := ad (300 + 4 * g)) (by rw [eu16, gp_rd, hgp]; rfl) ?_
                    refine lv_iconst (v := nI 0) hx hb dX5_readParts_80 (by decide) ?_
                    refine lv_iload hx hb dX5_readParts_81 (lv_at hl 1 rfl) ?_
                    refine lv_iconst (v := nI 0) hx hb dX5_readParts_83 (by decide) ?_
                    refine cl_X5_48 C h (show 300 + 4 * g ∈ Ls from hG 0 (by decide)) (kd_f0 hg40) (c_X1_add l D cy ad Ls u16 hg40 hG zz (by rw [eu16]; exact gi_rd_z ..) (nI 0) (sgF (ga st 11) np aa) (nI 0)) (x_room (by omega)) ⟨Nat.zero_le _, Nat.zero_le _⟩ hl.1 (Nat.le_of_ble_eq_true rfl) dX5_readParts_84 (fun r25 u24 H locs hp h => ?_)
                    obtain ⟨er, eu⟩ := hp; rw [eu16, ga_rd_1, ga_rd_2, ga_rd_3, rd_1, rd_2, rd_3, rd_z] at eu; refine x_topi er ?_; clear er r25
                    have Eu24 := eu; clear eu
                    refine lv_pop hx hb dX5_readParts_87 rfl ?_
                    refine lv_goto (tgt := 181) hx hb dX5_readParts_88 (by decide) ?_
                    refine lv_iload hx hb dX5_readParts_181 (lv_at hl 0 rfl) ?_
                    refine x_ifN_ne (tgt := 188) hx hb dX5_readParts_183 (by decide) (by decide) (fun _ => ?_) (fun z9 => absurd z9 (by decide))
                    refine lv_iinc (v := nI (t + 1)) (lv' := [(4, .int (nI (t + 1))), (6, .int (nI 1)), (5, .int (sgF (ga st 11) np aa)), (0, .ref (ad 1)), (1, .int (nI dp)), (2, .int (bi il)), (3, .int (bi ol))]) hx hb dX5_readParts_188 hl (k := 6) rfl (nI_add _ _) (by decide) rfl (fun ls hl => ?_)
                    refine lv_goto (tgt := 3) hx hb dX5_readParts_191 (by decide) ?_
                    exact ih3 u24 (aa + (nI 1)) pp (zz + nI 1) (xset 160 dd zz (nI 0)) (xset 160 ff zz (sgF (ga st 11) np aa)) (xset 160 ww zz (nI 0)) (t + 1) Eu24 (by rw [hq, show 160 - t = (160 - (t + 1)) + 1 by omega, rPartsL]; simp only [k123_0, k123_124, k123_125, k63_42, rStop, rPart, rNo, rUp, rAdd, if_true, if_false, Bool.false_eq_true, eq_self, reduceCtorEq, decide_true, decide_false, Bool.or_true, Bool.or_false, Bool.true_or, Bool.false_or, Bool.and_true, Bool.and_false, Bool.true_and, Bool.false_and, c26, c33, c40, c44, c51, c73]) (by omega) (by omega) H locs ls h (lv_sub hl [3, 4, 5, 6, 0] rfl)
                · refine lv_iconst (v := nI 1) hx hb dX5_readParts_54 (by decide) ?_
                  have hF : rParts (ga st 11) np 0 il ol (a, p9, z, d, f, w) = (true, (aa, pp, zz, dd, ff, ww)) := by
                    rw [hq, show 160 - t = (159 - t) + 1 by omega, rPartsL]
                    simp only [k123_0, k123_124, k123_125, k63_42, rStop, rPart, rNo, rUp, rAdd, if_true, if_false, Bool.false_eq_true, eq_self, reduceCtorEq, decide_true, decide_false, Bool.or_true, Bool.or_false, Bool.true_or, Bool.false_or, Bool.and_true, Bool.and_false, Bool.true_and, Bool.false_and, c26, c33, c40, c44, c51]
                  exact x_zret C hr hlocks (by first | rfl | exact bi_zn _ | decide) h ⟨by rw [hF]; rfl, by rw [hF]; exact Eu13⟩ dX5_readParts_55
  exact L3 161 v a p9 z d f w 0 hv rfl (by omega) (by omega) H locs ls h (lv_sub hl [1, 2, 3, 4, 0] rfl)

set_option maxHeartbeats 4000000 in
set_option maxRecDepth 100000 in
theorem c_X5_readPartsS (l : Launch) (D : va_G) (cy : Nat → ClassId) (ad : Nat → Nat) (Ls : List Nat) (st : XS) (hL : ∀ k, xC k = true → k ∈ Ls) {g : Nat} (hg40 : g < 40) (hG : ∀ j, j < 4 → 300 + 4 * g + j ∈ Ls) (hgp : gp st 1 1 = some (300 + 4 * g)) (np : Nat) (hnp : gi st 1 2 = nI np) (a p9 z : Int32) (d f w : Nat → Int32) (k dp : Nat) (hdp : dp < 5) (hLP : LPc l D cy ad Ls st g np k dp) (hCH : CHc l D cy ad Ls st g np k dp) (il ol : Bool) : xMi l yX5_readParts cX5_readParts 7 (some .boolean) (10 + 3 * (k + 1)) D cy ad Ls (rdS st g (a, p9, z, d, f, w)) [.ref (ad 1), .int (nI dp), .int (bi il), .int (bi ol)] (fun r u => r = bi (rParts (ga st 11) np (k + 1) il ol (a, p9, z, d, f, w)).1 ∧ u = rdS st g (rParts (ga st 11) np (k + 1) il ol (a, p9, z, d, f, w)).2) := by
  intro sz
  refine x_of sz (by decide +kernel) (Nat.le_of_ble_eq_true rfl) ?_
  intro p e s m args below meth c ls hx hb hr hlocks C hsz h hl
  have hl : lv_has ls 7 [(0, .ref (ad 1)), (1, .int (nI dp)), (2, .int (bi il)), (3, .int (bi ol))] := hl
  obtain ⟨H, eH⟩ : ∃ z, z = s.heap := ⟨_, rfl⟩
  obtain ⟨locs, eL⟩ : ∃ z : List Loc, z = [] := ⟨_, rfl⟩
  rw [← eH, ← eL] at h
  rw [← eH, ← eL]
  clear eH eL
  obtain ⟨v, hv⟩ : ∃ v, v = rdS st g (a, p9, z, d, f, w) := ⟨_, rfl⟩
  rw [← hv] at h
  refine lv_iconst (v := nI 0) hx hb dX5_readParts_0 (by decide) ?_
  refine lv_istore (lv' := [(4, .int (nI 0)), (0, .ref (ad 1)), (1, .int (nI dp)), (2, .int (bi il)), (3, .int (bi ol))]) hx hb dX5_readParts_1 hl (by decide) rfl (fun ls hl => ?_)
  have L3 : ∀ (N3 : Nat) (v9 : XS) (aa : Int32) (pp : Int32) (zz : Int32) (dd : Nat → Int32) (ff : Nat → Int32) (ww : Nat → Int32) (t : Nat) (hv9 : v9 = rdS st g (aa, pp, zz, dd, ff, ww)) (hq : rParts (ga st 11) np (k + 1) il ol (a, p9, z, d, f, w) = rPartsL (ga st 11) np (fun y => if il then (false, y) else rLoop (ga st 11) np (rParts (ga st 11) np k true true) y) (fun y => rChoice (ga st 11) np il (rParts (ga st 11) np k il false) y) il ol (160 - t) (aa, pp, zz, dd, ff, ww)) (ht : t ≤ 160) (hN : 160 - t < N3) (H : Heap) (locs : List Loc) (ls : Array Slot), xH D cy ad Ls (XA ad Ls sz) s v9 H locs → lv_has ls 7 [(0, .ref (ad 1)), (1, .int (nI dp)), (2, .int (bi il)), (3, .int (bi ol)), (4, .int (nI t))] → W p l e (xR (10 + 3 * (k + 1))) s m args below meth c H locs 0 0 (MQ below (va_Qi (fun r u => r = bi (rParts (ga st 11) np (k + 1) il ol (a, p9, z, d, f, w)).1 ∧ u = rdS st g (rParts (ga st 11) np (k + 1) il ol (a, p9, z, d, f, w)).2) (fun u => xPost D cy ad Ls (XA ad Ls sz) u) (XA ad Ls sz)) args s 0 0 (XA ad Ls sz)) (F0 m 3 ls []) := by
    intro N3
    induction N3 with
    | zero => intro v9 aa pp zz dd ff ww t hv9 hq ht hN; omega
    | succ N3 ih3 =>
      intro v9 aa pp zz dd ff ww t hv9 hq ht hN H locs ls h hl
      refine lv_iload hx hb dX5_readParts_3 (lv_at hl 4 rfl) ?_
      refine lv_sipush (v := nI 160) hx hb dX5_readParts_5 (by decide) ?_
      refine x_icmpN_ge (tgt := 194) hx hb dX5_readParts_8 (by decide) (by omega) (by omega) (fun c8 => ?_) (fun c8 => ?_)
      · refine lv_iconst (v := nI 1) hx hb dX5_readParts_194 (by decide) ?_
        have hF : rParts (ga st 11) np (k + 1) il ol (a, p9, z, d, f, w) = (true, (aa, pp, zz, dd, ff, ww)) := by rw [hq, show 160 - t = 0 by omega, rPartsL]
        exact x_zret C hr hlocks (by first | rfl | exact bi_zn _ | decide) h ⟨by rw [hF]; rfl, by rw [hF]; exact hv9⟩ dX5_readParts_195
      · refine lv_aload_n hx hb dX5_readParts_11 rfl (lv_at hl 0 rfl) ?_
        refine gf_X5_12 C h (hL 1 rfl) rfl (k2 := 2) rfl dX5_readParts_12 ?_
        refine lv_aload_n hx hb dX5_readParts_15 rfl (lv_at hl 0 rfl) ?_
        refine gf_X5_29 C h (hL 1 rfl) rfl dX5_readParts_16 ?_
        refine x_topi (y := aa) (by rw [hv9]; exact gi_rd_a ..) ?_
        refine cl_X5_40 C h (hL 2 rfl) rfl (c_X3_signAt l D cy ad Ls v9 hL np (by rw [hv9, gi_rd_o (by decide) (by decide) (by omega)]; exact hnp) aa) (x_room (by omega)) ⟨Nat.zero_le _, Nat.zero_le _⟩ hl.1 (Nat.le_of_ble_eq_true rfl) dX5_readParts_19 (fun r2 u1 H locs hp h => ?_)
        obtain ⟨er2, eu1⟩ := hp; rw [eu1] at h; clear eu1 u1; refine x_topi er2 ?_; clear er2 r2
        refine x_topi (y := sgF (ga st 11) np aa) (by rw [hv9, ga_rd_o (by decide)]) ?_
        refine lv_istore (lv' := [(5, .int (sgF (ga st 11) np aa)), (0, .ref (ad 1)), (1, .int (nI dp)), (2, .int (bi il)), (3, .int (bi ol)), (4, .int (nI t))]) hx hb dX5_readParts_22 hl (by decide) rfl (fun ls hl => ?_)
        refine lv_iload hx hb dX5_readParts_24 (lv_at hl 0 rfl) ?_
        refine lv_if_eq (tgt := 54) hx hb dX5_readParts_26 (by decide) (fun c26 => ?_) (fun c26 => ?_)
        · refine lv_iconst (v := nI 1) hx hb dX5_readParts_54 (by decide) ?_
          have hF : rParts (ga st 11) np (k + 1) il ol (a, p9, z, d, f, w) = (true, (aa, pp, zz, dd, ff, ww)) := by
            rw [hq, show 160 - t = (159 - t) + 1 by omega, rPartsL]
            simp only [k123_0, k123_124, k123_125, k63_42, rStop, rPart, rNo, rUp, rAdd, if_true, if_false, Bool.false_eq_true, eq_self, reduceCtorEq, decide_true, decide_false, Bool.or_true, Bool.or_false, Bool.true_or, Bool.false_or, Bool.and_true, Bool.and_false, Bool.true_and, Bool.false_and, c26]
          exact x_zret C hr hlocks (by first | rfl | exact bi_zn _ | decide) h ⟨by rw [hF]; rfl, by rw [hF]; exact hv9⟩ dX5_readParts_55
        · refine lv_iload hx hb dX5_readParts_29 (lv_at hl 0 rfl) ?_
          refine lv_bipush (v := nI 124) hx hb dX5_readParts_31 (by decide) ?_
          refine lv_icmp_eq (tgt := 54) hx hb dX5_readParts_33 (by decide) (fun c33 => ?_) (fun c33 => ?_)
          · refine lv_iconst (v := nI 1) hx hb dX5_readParts_54 (by decide) ?_
            have hF : rParts (ga st 11) np (k + 1) il ol (a, p9, z, d, f, w) = (true, (aa, pp, zz, dd, ff, ww)) := by
              rw [hq, show 160 - t = (159 - t) + 1 by omega, rPartsL]
              simp only [k123_0, k123_124, k123_125, k63_42, rStop, rPart, rNo, rUp, rAdd, if_true, if_false, Bool.false_eq_true, eq_self, reduceCtorEq, decide_true, decide_false, Bool.or_true, Bool.or_false, Bool.true_or, Bool.false_or, Bool.and_true, Bool.and_false, Bool.true_and, Bool.false_and, c26, c33]
            exact x_zret C hr hlocks (by first | rfl | exact bi_zn _ | decide) h ⟨by rw [hF]; rfl, by rw [hF]; exact hv9⟩ dX5_readParts_55
          · refine lv_iload hx hb dX5_readParts_36 (lv_at hl 0 rfl) ?_
            refine lv_bipush (v := nI 125) hx hb dX5_readParts_38 (by decide) ?_
            refine lv_icmp_eq (tgt := 54) hx hb dX5_readParts_40 (by decide) (fun c40 => ?_) (fun c40 => ?_)
            · refine lv_iconst (v := nI 1) hx hb dX5_readParts_54 (by decide) ?_
              have hF : rParts (ga st 11) np (k + 1) il ol (a, p9, z, d, f, w) = (true, (aa, pp, zz, dd, ff, ww)) := by
                rw [hq, show 160 - t = (159 - t) + 1 by omega, rPartsL]
                simp only [k123_0, k123_124, k123_125, k63_42, rStop, rPart, rNo, rUp, rAdd, if_true, if_false, Bool.false_eq_true, eq_self, reduceCtorEq, decide_true, decide_false, Bool.or_true, Bool.or_false, Bool.true_or, Bool.false_or, Bool.and_true, Bool.and_false, Bool.true_and, Bool.false_and, c26, c33, c40]
              exact x_zret C hr hlocks (by first | rfl | exact bi_zn _ | decide) h ⟨by rw [hF]; rfl, by rw [hF]; exact hv9⟩ dX5_readParts_55
            · refine lv_iload_n hx hb dX5_readParts_43 rfl (lv_at hl 4 rfl) ?_
              refine x_ifb_eq (tgt := 56) hx hb dX5_readParts_44 (by decide) (fun c44 => ?_) (fun c44 => ?_)
              · refine lv_aload_n hx hb dX5_readParts_56 rfl (lv_at hl 1 rfl) ?_
                refine lv_dup hx hb dX5_readParts_57 rfl ?_
                refine gf_X5_29 C h (hL 1 rfl) rfl dX5_readParts_58 ?_
                refine x_topi (y := aa) (by rw [hv9]; exact gi_rd_a ..) ?_
                refine lv_iconst (v := nI 1) hx hb dX5_readParts_61 (by decide) ?_
                refine lv_iadd hx hb dX5_readParts_62 ?_
                refine pf_X5_29 C h (hL 1 rfl) rfl dX5_readParts_63 (fun H locs u3 eu3 h => ?_)
                rw [hv9, rd_a] at eu3
                refine lv_iconst (v := nI 1) hx hb dX5_readParts_66 (by decide) ?_
                refine lv_istore (lv' := [(6, .int (nI 1)), (5, .int (sgF (ga st 11) np aa)), (0, .ref (ad 1)), (1, .int (nI dp)), (2, .int (bi il)), (3, .int (bi ol)), (4, .int (nI t))]) hx hb dX5_readParts_67 hl (by decide) rfl (fun ls hl => ?_)
                refine lv_iload hx hb dX5_readParts_69 (lv_at hl 1 rfl) ?_
                refine lv_bipush (v := nI 123) hx hb dX5_readParts_71 (by decide) ?_
                refine lv_icmp_eq (tgt := 91) hx hb dX5_readParts_73 (by decide) (fun c73 => ?_) (fun c73 => ?_)
                · refine lv_aload_n hx hb dX5_readParts_91 rfl (lv_at hl 2 rfl) ?_
                  refine gf_X5_12 C h (hL 1 rfl) rfl (k2 := 2) rfl dX5_readParts_92 ?_
                  refine lv_aload_n hx hb dX5_readParts_95 rfl (lv_at hl 2 rfl) ?_
                  refine gf_X5_29 C h (hL 1 rfl) rfl dX5_readParts_96 ?_
                  refine x_topi (y := aa + (nI 1)) (by rw [eu3]; exact gi_rd_a ..) ?_
                  refine cl_X5_40 C h (hL 2 rfl) rfl (c_X3_signAt l D cy ad Ls u3 hL np (by rw [eu3, gi_rd_o (by decide) (by decide) (by omega)]; exact hnp) (aa + (nI 1))) (x_room (by omega)) ⟨Nat.zero_le _, Nat.zero_le _⟩ hl.1 (Nat.le_of_ble_eq_true rfl) dX5_readParts_99 (fun r5 u4 H locs hp h => ?_)
                  obtain ⟨er5, eu4⟩ := hp; rw [eu4] at h; clear eu4 u4; refine x_topi er5 ?_; clear er5 r5
                  refine x_topi (y := sgF (ga st 11) np (aa + (nI 1))) (by rw [eu3, ga_rd_o (by decide)]) ?_
                  refine lv_bipush (v := nI 42) hx hb dX5_readParts_102 (by decide) ?_
                  refine lv_icmp_ne (tgt := 134) hx hb dX5_readParts_104 (by decide) (fun c104 => ?_) (fun c104 => ?_)
                  · refine lv_aload_n hx hb dX5_readParts_134 rfl (lv_at hl 2 rfl) ?_
                    refine gf_X5_12 C h (hL 1 rfl) rfl (k2 := 2) rfl dX5_readParts_135 ?_
                    refine lv_aload_n hx hb dX5_readParts_138 rfl (lv_at hl 2 rfl) ?_
                    refine gf_X5_29 C h (hL 1 rfl) rfl dX5_readParts_139 ?_
                    refine x_topi (y := aa + (nI 1)) (by rw [eu3]; exact gi_rd_a ..) ?_
                    refine cl_X5_40 C h (hL 2 rfl) rfl (c_X3_signAt l D cy ad Ls u3 hL np (by rw [eu3, gi_rd_o (by decide) (by decide) (by omega)]; exact hnp) (aa + (nI 1))) (x_room (by omega)) ⟨Nat.zero_le _, Nat.zero_le _⟩ hl.1 (Nat.le_of_ble_eq_true rfl) dX5_readParts_142 (fun r7 u6 H locs hp h => ?_)
                    obtain ⟨er7, eu6⟩ := hp; rw [eu6] at h; clear eu6 u6; refine x_topi er7 ?_; clear er7 r7
                    refine x_topi (y := sgF (ga st 11) np (aa + (nI 1))) (by rw [eu3, ga_rd_o (by decide)]) ?_
                    refine lv_bipush (v := nI 63) hx hb dX5_readParts_145 (by decide) ?_
                    refine lv_icmp_ne (tgt := 174) hx hb dX5_readParts_147 (by decide) (fun c147 => ?_) (fun c147 => ?_)
                    · refine lv_aload_n hx hb dX5_readParts_174 rfl (lv_at hl 2 rfl) ?_
                      refine lv_iload_n hx hb dX5_readParts_175 rfl (lv_at hl 4 rfl) ?_
                      rw [eu3] at h
                      refine cl_X5_60 C h (hL 1 rfl) rfl (c_X5_readField l D cy ad Ls st hL hg40 hG hgp np hnp (aa + (nI 1)) pp zz dd ff ww il) (x_room (by omega)) ⟨Nat.zero_le _, Nat.zero_le _⟩ hl.1 (Nat.le_of_ble_eq_true rfl) dX5_readParts_176 (fun r9 u8 H locs hp h => ?_)
                      obtain ⟨q10, a10, p10_, z10, d10_, f10, w10, e10_⟩ : ∃ y0 y1 y2 y3 y4 y5 y6, rField (ga st 11) np il (aa + (nI 1), pp, zz, dd, ff, ww) = (y0, y1, y2, y3, y4, y5, y6) := ⟨_, _, _, _, _, _, _, rfl⟩
                      obtain ⟨er, eu⟩ := hp; rw [e10_] at er eu; replace er : r9 = bi q10 := er; replace eu : u8 = rdS st g (a10, p10_, z10, d10_, f10, w10) := eu
                      refine x_topi er ?_; clear er r9
                      have Eu8 := eu; clear eu
                      refine lv_istore (lv' := [(6, .int (bi q10)), (5, .int (sgF (ga st 11) np aa)), (0, .ref (ad 1)), (1, .int (nI dp)), (2, .int (bi il)), (3, .int (bi ol)), (4, .int (nI t))]) hx hb dX5_readParts_179 hl (by decide) rfl (fun ls hl => ?_)
                      refine lv_iload hx hb dX5_readParts_181 (lv_at hl 0 rfl) ?_
                      refine x_ifb_ne (tgt := 188) hx hb dX5_readParts_183 (by decide) (fun c183 => ?_) (fun c183 => ?_)
                      · refine lv_iinc (v := nI (t + 1)) (lv' := [(4, .int (nI (t + 1))), (6, .int (bi q10)), (5, .int (sgF (ga st 11) np aa)), (0, .ref (ad 1)), (1, .int (nI dp)), (2, .int (bi il)), (3, .int (bi ol))]) hx hb dX5_readParts_188 hl (k := 6) rfl (nI_add _ _) (by decide) rfl (fun ls hl => ?_)
                        refine lv_goto (tgt := 3) hx hb dX5_readParts_191 (by decide) ?_
                        exact ih3 u8 a10 p10_ z10 d10_ f10 w10 (t + 1) Eu8 (by rw [hq, show 160 - t = (160 - (t + 1)) + 1 by omega, rPartsL]; simp only [k123_0, k123_124, k123_125, k63_42, rStop, rPart, rNo, rUp, rAdd, if_true, if_false, Bool.false_eq_true, eq_self, reduceCtorEq, decide_true, decide_false, Bool.or_true, Bool.or_false, Bool.true_or, Bool.false_or, Bool.and_true, Bool.and_false, Bool.true_and, Bool.false_and, c26, c33, c40, c44, c73, c104, c147, c183, e10_]) (by omega) (by omega) H locs ls h (lv_sub hl [3, 4, 5, 6, 0] rfl)
                      · refine lv_iconst (v := nI 0) hx hb dX5_readParts_186 (by decide) ?_
                        have hF : rParts (ga st 11) np (k + 1) il ol (a, p9, z, d, f, w) = (false, (a10, p10_, z10, d10_, f10, w10)) := by
                          rw [hq, show 160 - t = (159 - t) + 1 by omega, rPartsL]
                          simp only [k123_0, k123_124, k123_125, k63_42, rStop, rPart, rNo, rUp, rAdd, if_true, if_false, Bool.false_eq_true, eq_self, reduceCtorEq, decide_true, decide_false, Bool.or_true, Bool.or_false, Bool.true_or, Bool.false_or, Bool.and_true, Bool.and_false, Bool.true_and, Bool.false_and, c26, c33, c40, c44, c73, c104, c147, c183, e10_]
                        exact x_zret C hr hlocks (by first | rfl | exact bi_zn _ | decide) h ⟨by rw [hF]; rfl, by rw [hF]; exact Eu8⟩ dX5_readParts_187
                    · refine lv_iload_n hx hb dX5_readParts_150 rfl (lv_at hl 3 rfl) ?_
                      refine lv_iconst (v := nI 5) hx hb dX5_readParts_151 (by decide) ?_
                      refine x_icmpN_ge (tgt := 168) hx hb dX5_readParts_152 (by decide) (by omega) (by omega) (fun c152 => ?_) (fun c152 => ?_)
                      · exact absurd c152 (by omega)
                      · refine lv_aload_n hx hb dX5_readParts_155 rfl (lv_at hl 2 rfl) ?_
                        refine lv_iload_n hx hb dX5_readParts_156 rfl (lv_at hl 3 rfl) ?_
                        refine lv_iload_n hx hb dX5_readParts_157 rfl (lv_at hl 4 rfl) ?_
                        rw [eu3] at h
                        refine cl_X5_56 C h (hL 1 rfl) rfl (hCH (aa + (nI 1)) pp zz dd ff ww il) (x_room (by omega)) ⟨Nat.zero_le _, Nat.zero_le _⟩ hl.1 (Nat.le_of_ble_eq_true rfl) dX5_readParts_158 (fun r12 u11 H locs hp h => ?_)
                        obtain ⟨q13, a13, p13_, z13, d13_, f13, w13, e13_⟩ : ∃ y0 y1 y2 y3 y4 y5 y6, rChoice (ga st 11) np il (rParts (ga st 11) np k il false) (aa + (nI 1), pp, zz, dd, ff, ww) = (y0, y1, y2, y3, y4, y5, y6) := ⟨_, _, _, _, _, _, _, rfl⟩
                        obtain ⟨er, eu⟩ := hp; rw [e13_] at er eu; replace er : r12 = bi q13 := er; replace eu : u11 = rdS st g (a13, p13_, z13, d13_, f13, w13) := eu
                        refine x_topi er ?_; clear er r12
                        have Eu11 := eu; clear eu
                        refine x_ifb_eq (tgt := 168) hx hb dX5_readParts_161 (by decide) (fun c161 => ?_) (fun c161 => ?_)
                        · refine lv_iconst (v := nI 0) hx hb dX5_readParts_168 (by decide) ?_
                          refine lv_istore (lv' := [(6, .int (nI 0)), (5, .int (sgF (ga st 11) np aa)), (0, .ref (ad 1)), (1, .int (nI dp)), (2, .int (bi il)), (3, .int (bi ol)), (4, .int (nI t))]) hx hb dX5_readParts_169 hl (by decide) rfl (fun ls hl => ?_)
                          refine lv_goto (tgt := 181) hx hb dX5_readParts_171 (by decide) ?_
                          refine lv_iload hx hb dX5_readParts_181 (lv_at hl 0 rfl) ?_
                          refine x_ifN_ne (tgt := 188) hx hb dX5_readParts_183 (by decide) (by decide) (fun z9 => absurd z9 (by decide)) (fun _ => ?_)
                          refine lv_iconst (v := nI 0) hx hb dX5_readParts_186 (by decide) ?_
                          have hF : rParts (ga st 11) np (k + 1) il ol (a, p9, z, d, f, w) = (false, (a13, p13_, z13, d13_, f13, w13)) := by
                            rw [hq, show 160 - t = (159 - t) + 1 by omega, rPartsL]
                            simp only [k123_0, k123_124, k123_125, k63_42, rStop, rPart, rNo, rUp, rAdd, if_true, if_false, Bool.false_eq_true, eq_self, reduceCtorEq, decide_true, decide_false, Bool.or_true, Bool.or_false, Bool.true_or, Bool.false_or, Bool.and_true, Bool.and_false, Bool.true_and, Bool.false_and, c26, c33, c40, c44, c73, c104, c147, c152, c161, e13_]
                          exact x_zret C hr hlocks (by first | rfl | exact bi_zn _ | decide) h ⟨by rw [hF]; rfl, by rw [hF]; exact Eu11⟩ dX5_readParts_187
                        · refine lv_iconst (v := nI 1) hx hb dX5_readParts_164 (by decide) ?_
                          refine lv_goto (tgt := 169) hx hb dX5_readParts_165 (by decide) ?_
                          refine lv_istore (lv' := [(6, .int (nI 1)), (5, .int (sgF (ga st 11) np aa)), (0, .ref (ad 1)), (1, .int (nI dp)), (2, .int (bi il)), (3, .int (bi ol)), (4, .int (nI t))]) hx hb dX5_readParts_169 hl (by decide) rfl (fun ls hl => ?_)
                          refine lv_goto (tgt := 181) hx hb dX5_readParts_171 (by decide) ?_
                          refine lv_iload hx hb dX5_readParts_181 (lv_at hl 0 rfl) ?_
                          refine x_ifN_ne (tgt := 188) hx hb dX5_readParts_183 (by decide) (by decide) (fun _ => ?_) (fun z9 => absurd z9 (by decide))
                          refine lv_iinc (v := nI (t + 1)) (lv' := [(4, .int (nI (t + 1))), (6, .int (nI 1)), (5, .int (sgF (ga st 11) np aa)), (0, .ref (ad 1)), (1, .int (nI dp)), (2, .int (bi il)), (3, .int (bi ol))]) hx hb dX5_readParts_188 hl (k := 6) rfl (nI_add _ _) (by decide) rfl (fun ls hl => ?_)
                          refine lv_goto (tgt := 3) hx hb dX5_readParts_191 (by decide) ?_
                          exact ih3 u11 a13 p13_ z13 d13_ f13 w13 (t + 1) Eu11 (by rw [hq, show 160 - t = (160 - (t + 1)) + 1 by omega, rPartsL]; simp only [k123_0, k123_124, k123_125, k63_42, rStop, rPart, rNo, rUp, rAdd, if_true, if_false, Bool.false_eq_true, eq_self, reduceCtorEq, decide_true, decide_false, Bool.or_true, Bool.or_false, Bool.true_or, Bool.false_or, Bool.and_true, Bool.and_false, Bool.true_and, Bool.false_and, c26, c33, c40, c44, c73, c104, c147, c152, c161, e13_]) (by omega) (by omega) H locs ls h (lv_sub hl [3, 4, 5, 6, 0] rfl)
                  · refine lv_iload_n hx hb dX5_readParts_107 rfl (lv_at hl 4 rfl) ?_
                    refine x_ifb_ne (tgt := 128) hx hb dX5_readParts_108 (by decide) (fun c108 => ?_) (fun c108 => ?_)
                    · refine lv_iconst (v := nI 0) hx hb dX5_readParts_128 (by decide) ?_
                      refine lv_istore (lv' := [(6, .int (nI 0)), (5, .int (sgF (ga st 11) np aa)), (0, .ref (ad 1)), (1, .int (nI dp)), (2, .int (bi il)), (3, .int (bi ol)), (4, .int (nI t))]) hx hb dX5_readParts_129 hl (by decide) rfl (fun ls hl => ?_)
                      refine lv_goto (tgt := 181) hx hb dX5_readParts_131 (by decide) ?_
                      refine lv_iload hx hb dX5_readParts_181 (lv_at hl 0 rfl) ?_
                      refine x_ifN_ne (tgt := 188) hx hb dX5_readParts_183 (by decide) (by decide) (fun z9 => absurd z9 (by decide)) (fun _ => ?_)
                      refine lv_iconst (v := nI 0) hx hb dX5_readParts_186 (by decide) ?_
                      have hF : rParts (ga st 11) np (k + 1) il ol (a, p9, z, d, f, w) = (false, (aa + (nI 1), pp, zz, dd, ff, ww)) := by
                        rw [hq, show 160 - t = (159 - t) + 1 by omega, rPartsL]
                        simp only [k123_0, k123_124, k123_125, k63_42, rStop, rPart, rNo, rUp, rAdd, if_true, if_false, Bool.false_eq_true, eq_self, reduceCtorEq, decide_true, decide_false, Bool.or_true, Bool.or_false, Bool.true_or, Bool.false_or, Bool.and_true, Bool.and_false, Bool.true_and, Bool.false_and, c26, c33, c40, c44, c73, c104, c108]
                      exact x_zret C hr hlocks (by first | rfl | exact bi_zn _ | decide) h ⟨by rw [hF]; rfl, by rw [hF]; exact eu3⟩ dX5_readParts_187
                    · refine lv_iload_n hx hb dX5_readParts_111 rfl (lv_at hl 3 rfl) ?_
                      refine lv_iconst (v := nI 5) hx hb dX5_readParts_112 (by decide) ?_
                      refine x_icmpN_ge (tgt := 128) hx hb dX5_readParts_113 (by decide) (by omega) (by omega) (fun c113 => ?_) (fun c113 => ?_)
                      · exact absurd c113 (by omega)
                      · refine lv_aload_n hx hb dX5_readParts_116 rfl (lv_at hl 2 rfl) ?_
                        refine lv_iload_n hx hb dX5_readParts_117 rfl (lv_at hl 3 rfl) ?_
                        rw [eu3] at h
                        refine cl_X5_52 C h (hL 1 rfl) rfl (hLP (aa + (nI 1)) pp zz dd ff ww) (x_room (by omega)) ⟨Nat.zero_le _, Nat.zero_le _⟩ hl.1 (Nat.le_of_ble_eq_true rfl) dX5_readParts_118 (fun r15 u14 H locs hp h => ?_)
                        obtain ⟨q16, a16, p16_, z16, d16_, f16, w16, e16_⟩ : ∃ y0 y1 y2 y3 y4 y5 y6, rLoop (ga st 11) np (rParts (ga st 11) np k true true) (aa + (nI 1), pp, zz, dd, ff, ww) = (y0, y1, y2, y3, y4, y5, y6) := ⟨_, _, _, _, _, _, _, rfl⟩
                        obtain ⟨er, eu⟩ := hp; rw [e16_] at er eu; replace er : r15 = bi q16 := er; replace eu : u14 = rdS st g (a16, p16_, z16, d16_, f16, w16) := eu
                        refine x_topi er ?_; clear er r15
                        have Eu14 := eu; clear eu
                        refine x_ifb_eq (tgt := 128) hx hb dX5_readParts_121 (by decide) (fun c121 => ?_) (fun c121 => ?_)
                        · refine lv_iconst (v := nI 0) hx hb dX5_readParts_128 (by decide) ?_
                          refine lv_istore (lv' := [(6, .int (nI 0)), (5, .int (sgF (ga st 11) np aa)), (0, .ref (ad 1)), (1, .int (nI dp)), (2, .int (bi il)), (3, .int (bi ol)), (4, .int (nI t))]) hx hb dX5_readParts_129 hl (by decide) rfl (fun ls hl => ?_)
                          refine lv_goto (tgt := 181) hx hb dX5_readParts_131 (by decide) ?_
                          refine lv_iload hx hb dX5_readParts_181 (lv_at hl 0 rfl) ?_
                          refine x_ifN_ne (tgt := 188) hx hb dX5_readParts_183 (by decide) (by decide) (fun z9 => absurd z9 (by decide)) (fun _ => ?_)
                          refine lv_iconst (v := nI 0) hx hb dX5_readParts_186 (by decide) ?_
                          have hF : rParts (ga st 11) np (k + 1) il ol (a, p9, z, d, f, w) = (false, (a16, p16_, z16, d16_, f16, w16)) := by
                            rw [hq, show 160 - t = (159 - t) + 1 by omega, rPartsL]
                            simp only [k123_0, k123_124, k123_125, k63_42, rStop, rPart, rNo, rUp, rAdd, if_true, if_false, Bool.false_eq_true, eq_self, reduceCtorEq, decide_true, decide_false, Bool.or_true, Bool.or_false, Bool.true_or, Bool.false_or, Bool.and_true, Bool.and_false, Bool.true_and, Bool.false_and, c26, c33, c40, c44, c73, c104, c108, c113, c121, e16_]
                          exact x_zret C hr hlocks (by first | rfl | exact bi_zn _ | decide) h ⟨by rw [hF]; rfl, by rw [hF]; exact Eu14⟩ dX5_readParts_187
                        · refine lv_iconst (v := nI 1) hx hb dX5_readParts_124 (by decide) ?_
                          refine lv_goto (tgt := 129) hx hb dX5_readParts_125 (by decide) ?_
                          refine lv_istore (lv' := [(6, .int (nI 1)), (5, .int (sgF (ga st 11) np aa)), (0, .ref (ad 1)), (1, .int (nI dp)), (2, .int (bi il)), (3, .int (bi ol)), (4, .int (nI t))]) hx hb dX5_readParts_129 hl (by decide) rfl (fun ls hl => ?_)
                          refine lv_goto (tgt := 181) hx hb dX5_readParts_131 (by decide) ?_
                          refine lv_iload hx hb dX5_readParts_181 (lv_at hl 0 rfl) ?_
                          refine x_ifN_ne (tgt := 188) hx hb dX5_readParts_183 (by decide) (by decide) (fun _ => ?_) (fun z9 => absurd z9 (by decide))
                          refine lv_iinc (v := nI (t + 1)) (lv' := [(4, .int (nI (t + 1))), (6, .int (nI 1)), (5, .int (sgF (ga st 11) np aa)), (0, .ref (ad 1)), (1, .int (nI dp)), (2, .int (bi il)), (3, .int (bi ol))]) hx hb dX5_readParts_188 hl (k := 6) rfl (nI_add _ _) (by decide) rfl (fun ls hl => ?_)
                          refine lv_goto (tgt := 3) hx hb dX5_readParts_191 (by decide) ?_
                          exact ih3 u14 a16 p16_ z16 d16_ f16 w16 (t + 1) Eu14 (by rw [hq, show 160 - t = (160 - (t + 1)) + 1 by omega, rPartsL]; simp only [k123_0, k123_124, k123_125, k63_42, rStop, rPart, rNo, rUp, rAdd, if_true, if_false, Bool.false_eq_true, eq_self, reduceCtorEq, decide_true, decide_false, Bool.or_true, Bool.or_false, Bool.true_or, Bool.false_or, Bool.and_true, Bool.and_false, Bool.true_and, Bool.false_and, c26, c33, c40, c44, c73, c104, c108, c113, c121, e16_]) (by omega) (by omega) H locs ls h (lv_sub hl [3, 4, 5, 6, 0] rfl)
                · refine lv_aload_n hx hb dX5_readParts_76 rfl (lv_at hl 2 rfl) ?_
                  refine gf_X5_21 C h (hL 1 rfl) rfl dX5_readParts_77 ?_
                  refine x_topref (q := ad (300 + 4 * g)) (by rw [eu3, gp_rd, hgp]; rfl) ?_
                  refine lv_iconst (v := nI 0) hx hb dX5_readParts_80 (by decide) ?_
                  refine lv_iload hx hb dX5_readParts_81 (lv_at hl 1 rfl) ?_
                  refine lv_iconst (v := nI 0) hx hb dX5_readParts_83 (by decide) ?_
                  refine cl_X5_48 C h (show 300 + 4 * g ∈ Ls from hG 0 (by decide)) (kd_f0 hg40) (c_X1_add l D cy ad Ls u3 hg40 hG zz (by rw [eu3]; exact gi_rd_z ..) (nI 0) (sgF (ga st 11) np aa) (nI 0)) (x_room (by omega)) ⟨Nat.zero_le _, Nat.zero_le _⟩ hl.1 (Nat.le_of_ble_eq_true rfl) dX5_readParts_84 (fun r18 u17 H locs hp h => ?_)
                  obtain ⟨er, eu⟩ := hp; rw [eu3, ga_rd_1, ga_rd_2, ga_rd_3, rd_1, rd_2, rd_3, rd_z] at eu; refine x_topi er ?_; clear er r18
                  have Eu17 := eu; clear eu
                  refine lv_pop hx hb dX5_readParts_87 rfl ?_
                  refine lv_goto (tgt := 181) hx hb dX5_readParts_88 (by decide) ?_
                  refine lv_iload hx hb dX5_readParts_181 (lv_at hl 0 rfl) ?_
                  refine x_ifN_ne (tgt := 188) hx hb dX5_readParts_183 (by decide) (by decide) (fun _ => ?_) (fun z9 => absurd z9 (by decide))
                  refine lv_iinc (v := nI (t + 1)) (lv' := [(4, .int (nI (t + 1))), (6, .int (nI 1)), (5, .int (sgF (ga st 11) np aa)), (0, .ref (ad 1)), (1, .int (nI dp)), (2, .int (bi il)), (3, .int (bi ol))]) hx hb dX5_readParts_188 hl (k := 6) rfl (nI_add _ _) (by decide) rfl (fun ls hl => ?_)
                  refine lv_goto (tgt := 3) hx hb dX5_readParts_191 (by decide) ?_
                  exact ih3 u17 (aa + (nI 1)) pp (zz + nI 1) (xset 160 dd zz (nI 0)) (xset 160 ff zz (sgF (ga st 11) np aa)) (xset 160 ww zz (nI 0)) (t + 1) Eu17 (by rw [hq, show 160 - t = (160 - (t + 1)) + 1 by omega, rPartsL]; simp only [k123_0, k123_124, k123_125, k63_42, rStop, rPart, rNo, rUp, rAdd, if_true, if_false, Bool.false_eq_true, eq_self, reduceCtorEq, decide_true, decide_false, Bool.or_true, Bool.or_false, Bool.true_or, Bool.false_or, Bool.and_true, Bool.and_false, Bool.true_and, Bool.false_and, c26, c33, c40, c44, c73]) (by omega) (by omega) H locs ls h (lv_sub hl [3, 4, 5, 6, 0] rfl)
              · refine lv_aload_n hx hb dX5_readParts_47 rfl (lv_at hl 1 rfl) ?_
                rw [hv9] at h
                refine cl_X5_44 C h (hL 1 rfl) rfl (c_X5_endsLoop l D cy ad Ls st hL hg40 hG hgp np hnp aa pp zz dd ff ww) (x_room (by omega)) ⟨Nat.zero_le _, Nat.zero_le _⟩ hl.1 (Nat.le_of_ble_eq_true rfl) dX5_readParts_48 (fun r20 u19 H locs hp h => ?_)
                obtain ⟨er, eu⟩ := hp; refine x_topi er ?_; clear er r20; have Eu19 := eu; clear eu
                refine x_ifb_eq (tgt := 56) hx hb dX5_readParts_51 (by decide) (fun c51 => ?_) (fun c51 => ?_)
                · refine lv_aload_n hx hb dX5_readParts_56 rfl (lv_at hl 1 rfl) ?_
                  refine lv_dup hx hb dX5_readParts_57 rfl ?_
                  refine gf_X5_29 C h (hL 1 rfl) rfl dX5_readParts_58 ?_
                  refine x_topi (y := aa) (by rw [Eu19]; exact gi_rd_a ..) ?_
                  refine lv_iconst (v := nI 1) hx hb dX5_readParts_61 (by decide) ?_
                  refine lv_iadd hx hb dX5_readParts_62 ?_
                  refine pf_X5_29 C h (hL 1 rfl) rfl dX5_readParts_63 (fun H locs u22 eu22 h => ?_)
                  rw [Eu19, rd_a] at eu22
                  refine lv_iconst (v := nI 1) hx hb dX5_readParts_66 (by decide) ?_
                  refine lv_istore (lv' := [(6, .int (nI 1)), (5, .int (sgF (ga st 11) np aa)), (0, .ref (ad 1)), (1, .int (nI dp)), (2, .int (bi il)), (3, .int (bi ol)), (4, .int (nI t))]) hx hb dX5_readParts_67 hl (by decide) rfl (fun ls hl => ?_)
                  refine lv_iload hx hb dX5_readParts_69 (lv_at hl 1 rfl) ?_
                  refine lv_bipush (v := nI 123) hx hb dX5_readParts_71 (by decide) ?_
                  refine lv_icmp_eq (tgt := 91) hx hb dX5_readParts_73 (by decide) (fun c73 => ?_) (fun c73 => ?_)
                  · refine lv_aload_n hx hb dX5_readParts_91 rfl (lv_at hl 2 rfl) ?_
                    refine gf_X5_12 C h (hL 1 rfl) rfl (k2 := 2) rfl dX5_readParts_92 ?_
                    refine lv_aload_n hx hb dX5_readParts_95 rfl (lv_at hl 2 rfl) ?_
                    refine gf_X5_29 C h (hL 1 rfl) rfl dX5_readParts_96 ?_
                    refine x_topi (y := aa + (nI 1)) (by rw [eu22]; exact gi_rd_a ..) ?_
                    refine cl_X5_40 C h (hL 2 rfl) rfl (c_X3_signAt l D cy ad Ls u22 hL np (by rw [eu22, gi_rd_o (by decide) (by decide) (by omega)]; exact hnp) (aa + (nI 1))) (x_room (by omega)) ⟨Nat.zero_le _, Nat.zero_le _⟩ hl.1 (Nat.le_of_ble_eq_true rfl) dX5_readParts_99 (fun r24 u23 H locs hp h => ?_)
                    obtain ⟨er24, eu23⟩ := hp; rw [eu23] at h; clear eu23 u23; refine x_topi er24 ?_; clear er24 r24
                    refine x_topi (y := sgF (ga st 11) np (aa + (nI 1))) (by rw [eu22, ga_rd_o (by decide)]) ?_
                    refine lv_bipush (v := nI 42) hx hb dX5_readParts_102 (by decide) ?_
                    refine lv_icmp_ne (tgt := 134) hx hb dX5_readParts_104 (by decide) (fun c104 => ?_) (fun c104 => ?_)
                    · refine lv_aload_n hx hb dX5_readParts_134 rfl (lv_at hl 2 rfl) ?_
                      refine gf_X5_12 C h (hL 1 rfl) rfl (k2 := 2) rfl dX5_readParts_135 ?_
                      refine lv_aload_n hx hb dX5_readParts_138 rfl (lv_at hl 2 rfl) ?_
                      refine gf_X5_29 C h (hL 1 rfl) rfl dX5_readParts_139 ?_
                      refine x_topi (y := aa + (nI 1)) (by rw [eu22]; exact gi_rd_a ..) ?_
                      refine cl_X5_40 C h (hL 2 rfl) rfl (c_X3_signAt l D cy ad Ls u22 hL np (by rw [eu22, gi_rd_o (by decide) (by decide) (by omega)]; exact hnp) (aa + (nI 1))) (x_room (by omega)) ⟨Nat.zero_le _, Nat.zero_le _⟩ hl.1 (Nat.le_of_ble_eq_true rfl) dX5_readParts_142 (fun r26 u25 H locs hp h => ?_)
                      obtain ⟨er26, eu25⟩ := hp; rw [eu25] at h; clear eu25 u25; refine x_topi er26 ?_; clear er26 r26
                      refine x_topi (y := sgF (ga st 11) np (aa + (nI 1))) (by rw [eu22, ga_rd_o (by decide)]) ?_
                      refine lv_bipush (v := nI 63) hx hb dX5_readParts_145 (by decide) ?_
                      refine lv_icmp_ne (tgt := 174) hx hb dX5_readParts_147 (by decide) (fun c147 => ?_) (fun c147 => ?_)
                      · refine lv_aload_n hx hb dX5_readParts_174 rfl (lv_at hl 2 rfl) ?_
                        refine lv_iload_n hx hb dX5_readParts_175 rfl (lv_at hl 4 rfl) ?_
                        rw [eu22] at h
                        refine cl_X5_60 C h (hL 1 rfl) rfl (c_X5_readField l D cy ad Ls st hL hg40 hG hgp np hnp (aa + (nI 1)) pp zz dd ff ww il) (x_room (by omega)) ⟨Nat.zero_le _, Nat.zero_le _⟩ hl.1 (Nat.le_of_ble_eq_true rfl) dX5_readParts_176 (fun r28 u27 H locs hp h => ?_)
                        obtain ⟨q29, a29, p29_, z29, d29_, f29, w29, e29_⟩ : ∃ y0 y1 y2 y3 y4 y5 y6, rField (ga st 11) np il (aa + (nI 1), pp, zz, dd, ff, ww) = (y0, y1, y2, y3, y4, y5, y6) := ⟨_, _, _, _, _, _, _, rfl⟩
                        obtain ⟨er, eu⟩ := hp; rw [e29_] at er eu; replace er : r28 = bi q29 := er; replace eu : u27 = rdS st g (a29, p29_, z29, d29_, f29, w29) := eu
                        refine x_topi er ?_; clear er r28
                        have Eu27 := eu; clear eu
                        refine lv_istore (lv' := [(6, .int (bi q29)), (5, .int (sgF (ga st 11) np aa)), (0, .ref (ad 1)), (1, .int (nI dp)), (2, .int (bi il)), (3, .int (bi ol)), (4, .int (nI t))]) hx hb dX5_readParts_179 hl (by decide) rfl (fun ls hl => ?_)
                        refine lv_iload hx hb dX5_readParts_181 (lv_at hl 0 rfl) ?_
                        refine x_ifb_ne (tgt := 188) hx hb dX5_readParts_183 (by decide) (fun c183 => ?_) (fun c183 => ?_)
                        · refine lv_iinc (v := nI (t + 1)) (lv' := [(4, .int (nI (t + 1))), (6, .int (bi q29)), (5, .int (sgF (ga st 11) np aa)), (0, .ref (ad 1)), (1, .int (nI dp)), (2, .int (bi il)), (3, .int (bi ol))]) hx hb dX5_readParts_188 hl (k := 6) rfl (nI_add _ _) (by decide) rfl (fun ls hl => ?_)
                          refine lv_goto (tgt := 3) hx hb dX5_readParts_191 (by decide) ?_
                          exact ih3 u27 a29 p29_ z29 d29_ f29 w29 (t + 1) Eu27 (by rw [hq, show 160 - t = (160 - (t + 1)) + 1 by omega, rPartsL]; simp only [k123_0, k123_124, k123_125, k63_42, rStop, rPart, rNo, rUp, rAdd, if_true, if_false, Bool.false_eq_true, eq_self, reduceCtorEq, decide_true, decide_false, Bool.or_true, Bool.or_false, Bool.true_or, Bool.false_or, Bool.and_true, Bool.and_false, Bool.true_and, Bool.false_and, c26, c33, c40, c44, c51, c73, c104, c147, c183, e29_]) (by omega) (by omega) H locs ls h (lv_sub hl [3, 4, 5, 6, 0] rfl)
                        · refine lv_iconst (v := nI 0) hx hb dX5_readParts_186 (by decide) ?_
                          have hF : rParts (ga st 11) np (k + 1) il ol (a, p9, z, d, f, w) = (false, (a29, p29_, z29, d29_, f29, w29)) := by
                            rw [hq, show 160 - t = (159 - t) + 1 by omega, rPartsL]
                            simp only [k123_0, k123_124, k123_125, k63_42, rStop, rPart, rNo, rUp, rAdd, if_true, if_false, Bool.false_eq_true, eq_self, reduceCtorEq, decide_true, decide_false, Bool.or_true, Bool.or_false, Bool.true_or, Bool.false_or, Bool.and_true, Bool.and_false, Bool.true_and, Bool.false_and, c26, c33, c40, c44, c51, c73, c104, c147, c183, e29_]
                          exact x_zret C hr hlocks (by first | rfl | exact bi_zn _ | decide) h ⟨by rw [hF]; rfl, by rw [hF]; exact Eu27⟩ dX5_readParts_187
                      · refine lv_iload_n hx hb dX5_readParts_150 rfl (lv_at hl 3 rfl) ?_
                        refine lv_iconst (v := nI 5) hx hb dX5_readParts_151 (by decide) ?_
                        refine x_icmpN_ge (tgt := 168) hx hb dX5_readParts_152 (by decide) (by omega) (by omega) (fun c152 => ?_) (fun c152 => ?_)
                        · exact absurd c152 (by omega)
                        · refine lv_aload_n hx hb dX5_readParts_155 rfl (lv_at hl 2 rfl) ?_
                          refine lv_iload_n hx hb dX5_readParts_156 rfl (lv_at hl 3 rfl) ?_
                          refine lv_iload_n hx hb dX5_readParts_157 rfl (lv_at hl 4 rfl) ?_
                          rw [eu22] at h
                          refine cl_X5_56 C h (hL 1 rfl) rfl (hCH (aa + (nI 1)) pp zz dd ff ww il) (x_room (by omega)) ⟨Nat.zero_le _, Nat.zero_le _⟩ hl.1 (Nat.le_of_ble_eq_true rfl) dX5_readParts_158 (fun r31 u30 H locs hp h => ?_)
                          obtain ⟨q32, a32, p32_, z32, d32_, f32, w32, e32_⟩ : ∃ y0 y1 y2 y3 y4 y5 y6, rChoice (ga st 11) np il (rParts (ga st 11) np k il false) (aa + (nI 1), pp, zz, dd, ff, ww) = (y0, y1, y2, y3, y4, y5, y6) := ⟨_, _, _, _, _, _, _, rfl⟩
                          obtain ⟨er, eu⟩ := hp; rw [e32_] at er eu; replace er : r31 = bi q32 := er; replace eu : u30 = rdS st g (a32, p32_, z32, d32_, f32, w32) := eu
                          refine x_topi er ?_; clear er r31
                          have Eu30 := eu; clear eu
                          refine x_ifb_eq (tgt := 168) hx hb dX5_readParts_161 (by decide) (fun c161 => ?_) (fun c161 => ?_)
                          · refine lv_iconst (v := nI 0) hx hb dX5_readParts_168 (by decide) ?_
                            refine lv_istore (lv' := [(6, .int (nI 0)), (5, .int (sgF (ga st 11) np aa)), (0, .ref (ad 1)), (1, .int (nI dp)), (2, .int (bi il)), (3, .int (bi ol)), (4, .int (nI t))]) hx hb dX5_readParts_169 hl (by decide) rfl (fun ls hl => ?_)
                            refine lv_goto (tgt := 181) hx hb dX5_readParts_171 (by decide) ?_
                            refine lv_iload hx hb dX5_readParts_181 (lv_at hl 0 rfl) ?_
                            refine x_ifN_ne (tgt := 188) hx hb dX5_readParts_183 (by decide) (by decide) (fun z9 => absurd z9 (by decide)) (fun _ => ?_)
                            refine lv_iconst (v := nI 0) hx hb dX5_readParts_186 (by decide) ?_
                            have hF : rParts (ga st 11) np (k + 1) il ol (a, p9, z, d, f, w) = (false, (a32, p32_, z32, d32_, f32, w32)) := by
                              rw [hq, show 160 - t = (159 - t) + 1 by omega, rPartsL]
                              simp only [k123_0, k123_124, k123_125, k63_42, rStop, rPart, rNo, rUp, rAdd, if_true, if_false, Bool.false_eq_true, eq_self, reduceCtorEq, decide_true, decide_false, Bool.or_true, Bool.or_false, Bool.true_or, Bool.false_or, Bool.and_true, Bool.and_false, Bool.true_and, Bool.false_and, c26, c33, c40, c44, c51, c73, c104, c147, c152, c161, e32_]
                            exact x_zret C hr hlocks (by first | rfl | exact bi_zn _ | decide) h ⟨by rw [hF]; rfl, by rw [hF]; exact Eu30⟩ dX5_readParts_187
                          · refine lv_iconst (v := nI 1) hx hb dX5_readParts_164 (by decide) ?_
                            refine lv_goto (tgt := 169) hx hb dX5_readParts_165 (by decide) ?_
                            refine lv_istore (lv' := [(6, .int (nI 1)), (5, .int (sgF (ga st 11) np aa)), (0, .ref (ad 1)), (1, .int (nI dp)), (2, .int (bi il)), (3, .int (bi ol)), (4, .int (nI t))]) hx hb dX5_readParts_169 hl (by decide) rfl (fun ls hl => ?_)
                            refine lv_goto (tgt := 181) hx hb dX5_readParts_171 (by decide) ?_
                            refine lv_iload hx hb dX5_readParts_181 (lv_at hl 0 rfl) ?_
                            refine x_ifN_ne (tgt := 188) hx hb dX5_readParts_183 (by decide) (by decide) (fun _ => ?_) (fun z9 => absurd z9 (by decide))
                            refine lv_iinc (v := nI (t + 1)) (lv' := [(4, .int (nI (t + 1))), (6, .int (nI 1)), (5, .int (sgF (ga st 11) np aa)), (0, .ref (ad 1)), (1, .int (nI dp)), (2, .int (bi il)), (3, .int (bi ol))]) hx hb dX5_readParts_188 hl (k := 6) rfl (nI_add _ _) (by decide) rfl (fun ls hl => ?_)
                            refine lv_goto (tgt := 3) hx hb dX5_readParts_191 (by decide) ?_
                            exact ih3 u30 a32 p32_ z32 d32_ f32 w32 (t + 1) Eu30 (by rw [hq, show 160 - t = (160 - (t + 1)) + 1 by omega, rPartsL]; simp only [k123_0, k123_124, k123_125, k63_42, rStop, rPart, rNo, rUp, rAdd, if_true, if_false, Bool.false_eq_true, eq_self, reduceCtorEq, decide_true, decide_false, Bool.or_true, Bool.or_false, Bool.true_or, Bool.false_or, Bool.and_true, Bool.and_false, Bool.true_and, Bool.false_and, c26, c33, c40, c44, c51, c73, c104, c147, c152, c161, e32_]) (by omega) (by omega) H locs ls h (lv_sub hl [3, 4, 5, 6, 0] rfl)
                    · refine lv_iload_n hx hb dX5_readParts_107 rfl (lv_at hl 4 rfl) ?_
                      refine x_ifb_ne (tgt := 128) hx hb dX5_readParts_108 (by decide) (fun c108 => ?_) (fun c108 => ?_)
                      · refine lv_iconst (v := nI 0) hx hb dX5_readParts_128 (by decide) ?_
                        refine lv_istore (lv' := [(6, .int (nI 0)), (5, .int (sgF (ga st 11) np aa)), (0, .ref (ad 1)), (1, .int (nI dp)), (2, .int (bi il)), (3, .int (bi ol)), (4, .int (nI t))]) hx hb dX5_readParts_129 hl (by decide) rfl (fun ls hl => ?_)
                        refine lv_goto (tgt := 181) hx hb dX5_readParts_131 (by decide) ?_
                        refine lv_iload hx hb dX5_readParts_181 (lv_at hl 0 rfl) ?_
                        refine x_ifN_ne (tgt := 188) hx hb dX5_readParts_183 (by decide) (by decide) (fun z9 => absurd z9 (by decide)) (fun _ => ?_)
                        refine lv_iconst (v := nI 0) hx hb dX5_readParts_186 (by decide) ?_
                        have hF : rParts (ga st 11) np (k + 1) il ol (a, p9, z, d, f, w) = (false, (aa + (nI 1), pp, zz, dd, ff, ww)) := by
                          rw [hq, show 160 - t = (159 - t) + 1 by omega, rPartsL]
                          simp only [k123_0, k123_124, k123_125, k63_42, rStop, rPart, rNo, rUp, rAdd, if_true, if_false, Bool.false_eq_true, eq_self, reduceCtorEq, decide_true, decide_false, Bool.or_true, Bool.or_false, Bool.true_or, Bool.false_or, Bool.and_true, Bool.and_false, Bool.true_and, Bool.false_and, c26, c33, c40, c44, c51, c73, c104, c108]
                        exact x_zret C hr hlocks (by first | rfl | exact bi_zn _ | decide) h ⟨by rw [hF]; rfl, by rw [hF]; exact eu22⟩ dX5_readParts_187
                      · refine lv_iload_n hx hb dX5_readParts_111 rfl (lv_at hl 3 rfl) ?_
                        refine lv_iconst (v := nI 5) hx hb dX5_readParts_112 (by decide) ?_
                        refine x_icmpN_ge (tgt := 128) hx hb dX5_readParts_113 (by decide) (by omega) (by omega) (fun c113 => ?_) (fun c113 => ?_)
                        · exact absurd c113 (by omega)
                        · refine lv_aload_n hx hb dX5_readParts_116 rfl (lv_at hl 2 rfl) ?_
                          refine lv_iload_n hx hb dX5_readParts_117 rfl (lv_at hl 3 rfl) ?_
                          rw [eu22] at h
                          refine cl_X5_52 C h (hL 1 rfl) rfl (hLP (aa + (nI 1)) pp zz dd ff ww) (x_room (by omega)) ⟨Nat.zero_le _, Nat.zero_le _⟩ hl.1 (Nat.le_of_ble_eq_true rfl) dX5_readParts_118 (fun r34 u33 H locs hp h => ?_)
                          obtain ⟨q35, a35, p35_, z35, d35_, f35, w35, e35_⟩ : ∃ y0 y1 y2 y3 y4 y5 y6, rLoop (ga st 11) np (rParts (ga st 11) np k true true) (aa + (nI 1), pp, zz, dd, ff, ww) = (y0, y1, y2, y3, y4, y5, y6) := ⟨_, _, _, _, _, _, _, rfl⟩
                          obtain ⟨er, eu⟩ := hp; rw [e35_] at er eu; replace er : r34 = bi q35 := er; replace eu : u33 = rdS st g (a35, p35_, z35, d35_, f35, w35) := eu
                          refine x_topi er ?_; clear er r34
                          have Eu33 := eu; clear eu
                          refine x_ifb_eq (tgt := 128) hx hb dX5_readParts_121 (by decide) (fun c121 => ?_) (fun c121 => ?_)
                          · refine lv_iconst (v := nI 0) hx hb dX5_readParts_128 (by decide) ?_
                            refine lv_istore (lv' := [(6, .int (nI 0)), (5, .int (sgF (ga st 11) np aa)), (0, .ref (ad 1)), (1, .int (nI dp)), (2, .int (bi il)), (3, .int (bi ol)), (4, .int (nI t))]) hx hb dX5_readParts_129 hl (by decide) rfl (fun ls hl => ?_)
                            refine lv_goto (tgt := 181) hx hb dX5_readParts_131 (by decide) ?_
                            refine lv_iload hx hb dX5_readParts_181 (lv_at hl 0 rfl) ?_
                            refine x_ifN_ne (tgt := 188) hx hb dX5_readParts_183 (by decide) (by decide) (fun z9 => absurd z9 (by decide)) (fun _ => ?_)
                            refine lv_iconst (v := nI 0) hx hb dX5_readParts_186 (by decide) ?_
                            have hF : rParts (ga st 11) np (k + 1) il ol (a, p9, z, d, f, w) = (false, (a35, p35_, z35, d35_, f35, w35)) := by
                              rw [hq, show 160 - t = (159 - t) + 1 by omega, rPartsL]
                              simp only [k123_0, k123_124, k123_125, k63_42, rStop, rPart, rNo, rUp, rAdd, if_true, if_false, Bool.false_eq_true, eq_self, reduceCtorEq, decide_true, decide_false, Bool.or_true, Bool.or_false, Bool.true_or, Bool.false_or, Bool.and_true, Bool.and_false, Bool.true_and, Bool.false_and, c26, c33, c40, c44, c51, c73, c104, c108, c113, c121, e35_]
                            exact x_zret C hr hlocks (by first | rfl | exact bi_zn _ | decide) h ⟨by rw [hF]; rfl, by rw [hF]; exact Eu33⟩ dX5_readParts_187
                          · refine lv_iconst (v := nI 1) hx hb dX5_readParts_124 (by decide) ?_
                            refine lv_goto (tgt := 129) hx hb dX5_readParts_125 (by decide) ?_
                            refine lv_istore (lv' := [(6, .int (nI 1)), (5, .int (sgF (ga st 11) np aa)), (0, .ref (ad 1)), (1, .int (nI dp)), (2, .int (bi il)), (3, .int (bi ol)), (4, .int (nI t))]) hx hb dX5_readParts_129 hl (by decide) rfl (fun ls hl => ?_)
                            refine lv_goto (tgt := 181) hx hb dX5_readParts_131 (by decide) ?_
                            refine lv_iload hx hb dX5_readParts_181 (lv_at hl 0 rfl) ?_
                            refine x_ifN_ne (tgt := 188) hx hb dX5_readParts_183 (by decide) (by decide) (fun _ => ?_) (fun z9 => absurd z9 (by decide))
                            refine lv_iinc (v := nI (t + 1)) (lv' := [(4, .int (nI (t + 1))), (6, .int (nI 1)), (5, .int (sgF (ga st 11) np aa)), (0, .ref (ad 1)), (1, .int (nI dp)), (2, .int (bi il)), (3, .int (bi ol))]) hx hb dX5_readParts_188 hl (k := 6) rfl (nI_add _ _) (by decide) rfl (fun ls hl => ?_)
                            refine lv_goto (tgt := 3) hx hb dX5_readParts_191 (by decide) ?_
                            exact ih3 u33 a35 p35_ z35 d35_ f35 w35 (t + 1) Eu33 (by rw [hq, show 160 - t = (160 - (t + 1)) + 1 by omega, rPartsL]; simp only [k123_0, k123_124, k123_125, k63_42, rStop, rPart, rNo, rUp, rAdd, if_true, if_false, Bool.false_eq_true, eq_self, reduceCtorEq, decide_true, decide_false, Bool.or_true, Bool.or_false, Bool.true_or, Bool.false_or, Bool.and_true, Bool.and_false, Bool.true_and, Bool.false_and, c26, c33, c40, c44, c51, c73, c104, c108, c113, c121, e35_]) (by omega) (by omega) H locs ls h (lv_sub hl [3, 4, 5, 6, 0] rfl)
                  · refine lv_aload_n hx hb dX5_readParts_76 rfl (lv_at hl 2 rfl) ?_
                    refine gf_X5_21 C h (hL 1 rfl) rfl dX5_readParts_77 ?_
                    refine x_topref (q := ad (300 + 4 * g)) (by rw [eu22, gp_rd, hgp]; rfl) ?_
                    refine lv_iconst (v := nI 0) hx hb dX5_readParts_80 (by decide) ?_
                    refine lv_iload hx hb dX5_readParts_81 (lv_at hl 1 rfl) ?_
                    refine lv_iconst (v := nI 0) hx hb dX5_readParts_83 (by decide) ?_
                    refine cl_X5_48 C h (show 300 + 4 * g ∈ Ls from hG 0 (by decide)) (kd_f0 hg40) (c_X1_add l D cy ad Ls u22 hg40 hG zz (by rw [eu22]; exact gi_rd_z ..) (nI 0) (sgF (ga st 11) np aa) (nI 0)) (x_room (by omega)) ⟨Nat.zero_le _, Nat.zero_le _⟩ hl.1 (Nat.le_of_ble_eq_true rfl) dX5_readParts_84 (fun r37 u36 H locs hp h => ?_)
                    obtain ⟨er, eu⟩ := hp; rw [eu22, ga_rd_1, ga_rd_2, ga_rd_3, rd_1, rd_2, rd_3, rd_z] at eu; refine x_topi er ?_; clear er r37
                    have Eu36 := eu; clear eu
                    refine lv_pop hx hb dX5_readParts_87 rfl ?_
                    refine lv_goto (tgt := 181) hx hb dX5_readParts_88 (by decide) ?_
                    refine lv_iload hx hb dX5_readParts_181 (lv_at hl 0 rfl) ?_
                    refine x_ifN_ne (tgt := 188) hx hb dX5_readParts_183 (by decide) (by decide) (fun _ => ?_) (fun z9 => absurd z9 (by decide))
                    refine lv_iinc (v := nI (t + 1)) (lv' := [(4, .int (nI (t + 1))), (6, .int (nI 1)), (5, .int (sgF (ga st 11) np aa)), (0, .ref (ad 1)), (1, .int (nI dp)), (2, .int (bi il)), (3, .int (bi ol))]) hx hb dX5_readParts_188 hl (k := 6) rfl (nI_add _ _) (by decide) rfl (fun ls hl => ?_)
                    refine lv_goto (tgt := 3) hx hb dX5_readParts_191 (by decide) ?_
                    exact ih3 u36 (aa + (nI 1)) pp (zz + nI 1) (xset 160 dd zz (nI 0)) (xset 160 ff zz (sgF (ga st 11) np aa)) (xset 160 ww zz (nI 0)) (t + 1) Eu36 (by rw [hq, show 160 - t = (160 - (t + 1)) + 1 by omega, rPartsL]; simp only [k123_0, k123_124, k123_125, k63_42, rStop, rPart, rNo, rUp, rAdd, if_true, if_false, Bool.false_eq_true, eq_self, reduceCtorEq, decide_true, decide_false, Bool.or_true, Bool.or_false, Bool.true_or, Bool.false_or, Bool.and_true, Bool.and_false, Bool.true_and, Bool.false_and, c26, c33, c40, c44, c51, c73]) (by omega) (by omega) H locs ls h (lv_sub hl [3, 4, 5, 6, 0] rfl)
                · refine lv_iconst (v := nI 1) hx hb dX5_readParts_54 (by decide) ?_
                  have hF : rParts (ga st 11) np (k + 1) il ol (a, p9, z, d, f, w) = (true, (aa, pp, zz, dd, ff, ww)) := by
                    rw [hq, show 160 - t = (159 - t) + 1 by omega, rPartsL]
                    simp only [k123_0, k123_124, k123_125, k63_42, rStop, rPart, rNo, rUp, rAdd, if_true, if_false, Bool.false_eq_true, eq_self, reduceCtorEq, decide_true, decide_false, Bool.or_true, Bool.or_false, Bool.true_or, Bool.false_or, Bool.and_true, Bool.and_false, Bool.true_and, Bool.false_and, c26, c33, c40, c44, c51]
                  exact x_zret C hr hlocks (by first | rfl | exact bi_zn _ | decide) h ⟨by rw [hF]; rfl, by rw [hF]; exact Eu19⟩ dX5_readParts_55
  exact L3 161 v a p9 z d f w 0 hv rfl (by omega) (by omega) H locs ls h (lv_sub hl [1, 2, 3, 4, 0] rfl)

theorem c_X5_readParts (l : Launch) (D : va_G) (cy : Nat → ClassId) (ad : Nat → Nat) (Ls : List Nat) (st : XS) (hL : ∀ k, xC k = true → k ∈ Ls) {g : Nat} (hg40 : g < 40) (hG : ∀ j, j < 4 → 300 + 4 * g + j ∈ Ls) (hgp : gp st 1 1 = some (300 + 4 * g)) (np : Nat) (hnp : gi st 1 2 = nI np) : ∀ k dp : Nat, dp + k = 5 → PTc l D cy ad Ls st g np k dp := by
  intro k
  induction k with
  | zero => intro dp h a p9 z d f w il ol; exact c_X5_readParts0 l D cy ad Ls st hL hg40 hG hgp np hnp a p9 z d f w dp (by omega) il ol
  | succ k ih =>
    intro dp h a p9 z d f w il ol
    have hPT := ih (dp + 1) (by omega)
    exact c_X5_readPartsS l D cy ad Ls st hL hg40 hG hgp np hnp a p9 z d f w k dp (by omega) (fun a p9 z d f w => c_X5_readLoop l D cy ad Ls st hL hg40 hG hgp np hnp a p9 z d f w k dp (by omega) hPT) (fun a p9 z d f w il => c_X5_readChoice l D cy ad Ls st hL hg40 hG hgp np hnp a p9 z d f w k dp (by omega) hPT il) il ol
