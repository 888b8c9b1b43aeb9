/-! ===== the reference: written, length ===== -/
def kbWrit (nB nT : Nat) (i t p : Int32) : Nat := if inR i (nI 0) (nI nB - nI 1) && inR t (nI 0) (nI nT - nI 1) && !decide (p < 0) then 0 else 1
def kbLen (nB nT : Nat) (i t : Int32) : Nat := if inR i (nI 0) (nI nB - nI 1) && inR t (nI 0) (nI nT - nI 1) then 0 else 1

set_option maxHeartbeats 4000000 in
set_option maxRecDepth 100000 in
theorem c_X8_written (l : Launch) (D : va_G) (cy : Nat → ClassId) (ad : Nat → Nat) (Ls : List Nat) (st : XS) (hM : ∀ k, k ∈ LsM → k ∈ Ls) (nB : Nat) (hn28 : gi st 28 30 = nI nB) (nT : Nat) (hn3 : gi st 3 30 = nI nT) (i9 t9 p9 : Int32) (x1 : Int32 × Int32) (hd : kbWrit nB nT i9 t9 p9 = 0 → WD st i9 t9 p9 x1) : xMi l yX8_written cX8_written 4 (some .char) 7 D cy ad Ls st [.ref (ad 30), .int i9, .int t9, .int p9] (fun r u => (¬ kbWrit nB nT i9 t9 p9 = 0 ∧ r = nI 0 ∧ u = si st 0 30 (nI (kbWrit nB nT i9 t9 p9))) ∨ (kbWrit nB nT i9 t9 p9 = 0 ∧ r = chr x1.2 ∧ ∃ y, u = wwS (si (si st 0 30 (nI 0)) 48 30 p9) y)) := by
  intro sz
  refine x_of sz (by decide +kernel) (Nat.le_of_ble_eq_true rfl) ?_
  intro p e s m args below meth c ls hx hb hr hlocks C hsz h hl
  have hl : lv_has ls 4 [(0, .ref (ad 30)), (1, .int i9), (2, .int t9), (3, .int p9)] := hl
  obtain ⟨H, eH⟩ : ∃ z, z = s.heap := ⟨_, rfl⟩
  obtain ⟨locs, eL⟩ : ∃ z : List Loc, z = [] := ⟨_, rfl⟩
  rw [← eH, ← eL] at h
  rw [← eH, ← eL]
  clear eH eL
  refine lv_aload_n hx hb dX8_written_0 rfl (lv_at hl 0 rfl) ?_
  refine lv_aload_n hx hb dX8_written_1 rfl (lv_at hl 0 rfl) ?_
  refine lv_iload_n hx hb dX8_written_2 rfl (lv_at hl 1 rfl) ?_
  refine cl_X8_222 C h (hM 30 (by decide)) rfl (c_X8_isInvoice l D cy ad Ls st hM nB hn28 i9) (x_room (by omega)) ⟨Nat.zero_le _, Nat.zero_le _⟩ hl.1 (Nat.le_of_ble_eq_true rfl) dX8_written_3 (fun r2 u1 H locs hp h => ?_)
  obtain ⟨er2, eu1⟩ := hp; rw [eu1] at h; clear eu1 u1; refine x_topi er2 ?_; clear er2 r2
  refine x_ifb_eq (tgt := 31) hx hb dX8_written_6 (by decide) (fun c6 => ?_) (fun c6 => ?_)
  · refine lv_iconst (v := nI 1) hx hb dX8_written_31 (by decide) ?_
    refine pf_X8_110 C h (hM 30 (by decide)) rfl dX8_written_32 (fun H locs u3 eu3 h => ?_)
    have e4 : gi u3 28 30 = nI nB := by rw [eu3, gi_si, if_neg (by omega)]; exact hn28
    have e5 : gi u3 3 30 = nI nT := by rw [eu3, gi_si, if_neg (by omega)]; exact hn3
    have e6 : gi u3 0 30 = nI 1 := by rw [eu3, gi_si, if_pos ⟨rfl, rfl⟩]
    refine lv_aload_n hx hb dX8_written_35 rfl (lv_at hl 0 rfl) ?_
    refine gf_X8_110 C h (hM 30 (by decide)) rfl dX8_written_36 ?_
    refine x_topi e6 ?_
    refine x_ifN_le (tgt := 44) hx hb dX8_written_39 (by decide) (by decide) (fun z9 => absurd z9 (by decide)) (fun _ => ?_)
    refine lv_iconst (v := nI 0) hx hb dX8_written_42 (by decide) ?_
    exact x_zret C hr hlocks (by decide) h (Or.inl ⟨by rw [show kbWrit nB nT i9 t9 p9 = 1 from by simp only [kbWrit, if_true, if_false, Bool.not_true, Bool.not_false, Bool.and_true, Bool.true_and, Bool.and_false, Bool.false_and, Bool.or_true, Bool.true_or, Bool.or_false, Bool.false_or, Bool.false_eq_true, eq_self, decide_true, decide_false, c6]]; decide, rfl, by rw [eu3, show kbWrit nB nT i9 t9 p9 = 1 from by simp only [kbWrit, if_true, if_false, Bool.not_true, Bool.not_false, Bool.and_true, Bool.true_and, Bool.and_false, Bool.false_and, Bool.or_true, Bool.true_or, Bool.or_false, Bool.false_or, Bool.false_eq_true, eq_self, decide_true, decide_false, c6]]⟩) dX8_written_43
  · refine lv_iload_n hx hb dX8_written_9 rfl (lv_at hl 2 rfl) ?_
    refine lv_iconst (v := nI 0) hx hb dX8_written_10 (by decide) ?_
    refine lv_aload_n hx hb dX8_written_11 rfl (lv_at hl 0 rfl) ?_
    refine gf_X8_181 C h (hM 30 (by decide)) rfl dX8_written_12 ?_
    refine x_topi hn3 ?_
    refine lv_iconst (v := nI 1) hx hb dX8_written_15 (by decide) ?_
    refine lv_isub hx hb dX8_written_16 ?_
    refine cl_X8_120 C h (c_X8_isIn l D cy ad Ls st t9 (nI 0) ((nI nT) - (nI 1))) (x_room (by omega)) ⟨Nat.zero_le _, Nat.zero_le _⟩ hl.1 (Nat.le_of_ble_eq_true rfl) dX8_written_17 (fun r8 u7 H locs hp h => ?_)
    obtain ⟨er8, eu7⟩ := hp; rw [eu7] at h; clear eu7 u7; refine x_topi er8 ?_; clear er8 r8
    refine x_ifb_eq (tgt := 31) hx hb dX8_written_20 (by decide) (fun c20 => ?_) (fun c20 => ?_)
    · refine lv_iconst (v := nI 1) hx hb dX8_written_31 (by decide) ?_
      refine pf_X8_110 C h (hM 30 (by decide)) rfl dX8_written_32 (fun H locs u9 eu9 h => ?_)
      have e10 : gi u9 28 30 = nI nB := by rw [eu9, gi_si, if_neg (by omega)]; exact hn28
      have e11 : gi u9 3 30 = nI nT := by rw [eu9, gi_si, if_neg (by omega)]; exact hn3
      have e12 : gi u9 0 30 = nI 1 := by rw [eu9, gi_si, if_pos ⟨rfl, rfl⟩]
      refine lv_aload_n hx hb dX8_written_35 rfl (lv_at hl 0 rfl) ?_
      refine gf_X8_110 C h (hM 30 (by decide)) rfl dX8_written_36 ?_
      refine x_topi e12 ?_
      refine x_ifN_le (tgt := 44) hx hb dX8_written_39 (by decide) (by decide) (fun z9 => absurd z9 (by decide)) (fun _ => ?_)
      refine lv_iconst (v := nI 0) hx hb dX8_written_42 (by decide) ?_
      exact x_zret C hr hlocks (by decide) h (Or.inl ⟨by rw [show kbWrit nB nT i9 t9 p9 = 1 from by simp only [kbWrit, if_true, if_false, Bool.not_true, Bool.not_false, Bool.and_true, Bool.true_and, Bool.and_false, Bool.false_and, Bool.or_true, Bool.true_or, Bool.or_false, Bool.false_or, Bool.false_eq_true, eq_self, decide_true, decide_false, c6, c20]]; decide, rfl, by rw [eu9, show kbWrit nB nT i9 t9 p9 = 1 from by simp only [kbWrit, if_true, if_false, Bool.not_true, Bool.not_false, Bool.and_true, Bool.true_and, Bool.and_false, Bool.false_and, Bool.or_true, Bool.true_or, Bool.or_false, Bool.false_or, Bool.false_eq_true, eq_self, decide_true, decide_false, c6, c20]]⟩) dX8_written_43
    · refine lv_iload_n hx hb dX8_written_23 rfl (lv_at hl 3 rfl) ?_
      refine lv_if_lt (tgt := 31) hx hb dX8_written_24 (by decide) (fun c24 => ?_) (fun c24 => ?_)
      · refine lv_iconst (v := nI 1) hx hb dX8_written_31 (by decide) ?_
        refine pf_X8_110 C h (hM 30 (by decide)) rfl dX8_written_32 (fun H locs u13 eu13 h => ?_)
        have e14 : gi u13 28 30 = nI nB := by rw [eu13, gi_si, if_neg (by omega)]; exact hn28
        have e15 : gi u13 3 30 = nI nT := by rw [eu13, gi_si, if_neg (by omega)]; exact hn3
        have e16 : gi u13 0 30 = nI 1 := by rw [eu13, gi_si, if_pos ⟨rfl, rfl⟩]
        refine lv_aload_n hx hb dX8_written_35 rfl (lv_at hl 0 rfl) ?_
        refine gf_X8_110 C h (hM 30 (by decide)) rfl dX8_written_36 ?_
        refine x_topi e16 ?_
        refine x_ifN_le (tgt := 44) hx hb dX8_written_39 (by decide) (by decide) (fun z9 => absurd z9 (by decide)) (fun _ => ?_)
        refine lv_iconst (v := nI 0) hx hb dX8_written_42 (by decide) ?_
        exact x_zret C hr hlocks (by decide) h (Or.inl ⟨by rw [show kbWrit nB nT i9 t9 p9 = 1 from by simp only [kbWrit, if_true, if_false, Bool.not_true, Bool.not_false, Bool.and_true, Bool.true_and, Bool.and_false, Bool.false_and, Bool.or_true, Bool.true_or, Bool.or_false, Bool.false_or, Bool.false_eq_true, eq_self, decide_true, decide_false, c6, c20, c24]]; decide, rfl, by rw [eu13, show kbWrit nB nT i9 t9 p9 = 1 from by simp only [kbWrit, if_true, if_false, Bool.not_true, Bool.not_false, Bool.and_true, Bool.true_and, Bool.and_false, Bool.false_and, Bool.or_true, Bool.true_or, Bool.or_false, Bool.false_or, Bool.false_eq_true, eq_self, decide_true, decide_false, c6, c20, c24]]⟩) dX8_written_43
      · refine lv_iconst (v := nI 0) hx hb dX8_written_27 (by decide) ?_
        refine lv_goto (tgt := 32) hx hb dX8_written_28 (by decide) ?_
        refine pf_X8_110 C h (hM 30 (by decide)) rfl dX8_written_32 (fun H locs u17 eu17 h => ?_)
        have e18 : gi u17 28 30 = nI nB := by rw [eu17, gi_si, if_neg (by omega)]; exact hn28
        have e19 : gi u17 3 30 = nI nT := by rw [eu17, gi_si, if_neg (by omega)]; exact hn3
        have e20 : gi u17 0 30 = nI 0 := by rw [eu17, gi_si, if_pos ⟨rfl, rfl⟩]
        refine lv_aload_n hx hb dX8_written_35 rfl (lv_at hl 0 rfl) ?_
        refine gf_X8_110 C h (hM 30 (by decide)) rfl dX8_written_36 ?_
        refine x_topi e20 ?_
        refine x_ifN_le (tgt := 44) hx hb dX8_written_39 (by decide) (by decide) (fun _ => ?_) (fun z9 => absurd z9 (by decide))
        obtain ⟨b, n, us, j, sz9, N9, o1, lo1, ei, hb30, hn6, hmany, hus, et, hj6, hsz9, hszl, hrun⟩ := hd (by simp only [kbWrit, if_true, if_false, Bool.not_true, Bool.not_false, Bool.and_true, Bool.true_and, Bool.and_false, Bool.false_and, Bool.or_true, Bool.true_or, Bool.or_false, Bool.false_or, Bool.false_eq_true, eq_self, decide_true, decide_false, c6, c20, c24])
        rw [ei, et] at hl
        replace hl : lv_has ls 4 [(0, .ref (ad 30)), (1, .int (nI b)), (2, .int (nI j)), (3, .int p9)] := hl
        refine lv_aload_n hx hb dX8_written_44 rfl (lv_at hl 0 rfl) ?_
        refine lv_iload_n hx hb dX8_written_45 rfl (lv_at hl 3 rfl) ?_
        refine pf_X8_240 C h (hM 30 (by decide)) rfl dX8_written_46 (fun H locs u21 eu21 h => ?_)
        have e22 : gi u21 28 30 = nI nB := by rw [eu21, gi_si, if_neg (by omega)]; exact e18
        have e23 : gi u21 3 30 = nI nT := by rw [eu21, gi_si, if_neg (by omega)]; exact e19
        have e24 : gi u21 0 30 = nI 0 := by rw [eu21, gi_si, if_neg (by omega)]; exact e20
        have e25 : gi u21 48 30 = p9 := by rw [eu21, gi_si, if_pos ⟨rfl, rfl⟩]
        refine lv_aload_n hx hb dX8_written_49 rfl (lv_at hl 0 rfl) ?_
        refine lv_iload_n hx hb dX8_written_50 rfl (lv_at hl 1 rfl) ?_
        refine lv_iload_n hx hb dX8_written_51 rfl (lv_at hl 2 rfl) ?_
        have hu : u21 = si (si st 0 30 (nI 0)) 48 30 p9 := by rw [eu21, eu17]
        have hK : ∀ k, ga u21 k = ga st k := by rw [hu]; exact fun _ => rfl
        have hw : ∀ k bs, wRo u21 k bs = wRo st k bs := fun k bs => funext fun i => by rw [wRo, wRo, hK]
        have hm : mnmS u21 b n us = mnmS st b n us := funext fun o => funext fun x => mnmS_K hK ..
        have hlo : gi u21 46 30 = gi st 46 30 := by rw [hu]; rfl
        have h48 : gi u21 48 30 = p9 := by rw [hu]; rfl
        rw [← ww_id u21] at h
        refine cl_X8_276 C h (hM 30 (by decide)) rfl (c_X8_writes l D cy ad Ls u21 hM b n hb30 hn6 (by rw [hK]; exact hmany) us (by rw [hK]; exact hus) j hj6 sz9 hszl (by rw [hK]; exact hsz9) p9 h48 _ _ _ _ _ _ N9 x1 o1 lo1 (by rw [hm, hw, hw, hw, hw, hlo]; exact hrun)) (x_room (by omega)) ⟨Nat.zero_le _, Nat.zero_le _⟩ hl.1 (Nat.le_of_ble_eq_true rfl) dX8_written_52 (fun u26 H locs hp h => ?_)
        obtain ⟨v1, Eu26⟩ := hp
        have f49 : gi u26 49 30 = x1.2 := by rw [Eu26]; exact gi_ww49
        have f47 : gi u26 47 30 = x1.1 := by rw [Eu26]; exact gi_ww47
        refine lv_aload_n hx hb dX8_written_55 rfl (lv_at hl 0 rfl) ?_
        refine gf_X8_243 C h (hM 30 (by decide)) rfl dX8_written_56 ?_
        refine x_topi f49 ?_
        refine lv_i2c hx hb dX8_written_59 rfl ?_
        exact x_zret C hr hlocks (pk_nc _) h (Or.inr ⟨by simp only [kbWrit, if_true, if_false, Bool.not_true, Bool.not_false, Bool.and_true, Bool.true_and, Bool.and_false, Bool.false_and, Bool.or_true, Bool.true_or, Bool.or_false, Bool.false_or, Bool.false_eq_true, eq_self, decide_true, decide_false, c6, c20, c24], rfl, _, by rw [← hu]; exact Eu26⟩) dX8_written_60

set_option maxHeartbeats 4000000 in
set_option maxRecDepth 100000 in
theorem c_X8_length (l : Launch) (D : va_G) (cy : Nat → ClassId) (ad : Nat → Nat) (Ls : List Nat) (st : XS) (hM : ∀ k, k ∈ LsM → k ∈ Ls) (nB : Nat) (hn28 : gi st 28 30 = nI nB) (nT : Nat) (hn3 : gi st 3 30 = nI nT) (i9 t9 : Int32) (x1 : Int32 × Int32) (hd : kbLen nB nT i9 t9 = 0 → WD st i9 t9 (-1) x1) : xMi l yX8_length cX8_length 3 (some .int) 7 D cy ad Ls st [.ref (ad 30), .int i9, .int t9] (fun r u => (¬ kbLen nB nT i9 t9 = 0 ∧ r = nI 0 ∧ u = si st 0 30 (nI (kbLen nB nT i9 t9))) ∨ (kbLen nB nT i9 t9 = 0 ∧ r = x1.1 ∧ ∃ y, u = wwS (si (si st 0 30 (nI 0)) 48 30 (-1)) y)) := by
  intro sz
  refine x_of sz (by decide +kernel) (Nat.le_of_ble_eq_true rfl) ?_
  intro p e s m args below meth c ls hx hb hr hlocks C hsz h hl
  have hl : lv_has ls 3 [(0, .ref (ad 30)), (1, .int i9), (2, .int t9)] := hl
  obtain ⟨H, eH⟩ : ∃ z, z = s.heap := ⟨_, rfl⟩
  obtain ⟨locs, eL⟩ : ∃ z : List Loc, z = [] := ⟨_, rfl⟩
  rw [← eH, ← eL] at h
  rw [← eH, ← eL]
  clear eH eL
  refine lv_aload_n hx hb dX8_length_0 rfl (lv_at hl 0 rfl) ?_
  refine lv_aload_n hx hb dX8_length_1 rfl (lv_at hl 0 rfl) ?_
  refine lv_iload_n hx hb dX8_length_2 rfl (lv_at hl 1 rfl) ?_
  refine cl_X8_222 C h (hM 30 (by decide)) rfl (c_X8_isInvoice l D cy ad Ls st hM nB hn28 i9) (x_room (by omega)) ⟨Nat.zero_le _, Nat.zero_le _⟩ hl.1 (Nat.le_of_ble_eq_true rfl) dX8_length_3 (fun r2 u1 H locs hp h => ?_)
  obtain ⟨er2, eu1⟩ := hp; rw [eu1] at h; clear eu1 u1; refine x_topi er2 ?_; clear er2 r2
  refine x_ifb_eq (tgt := 27) hx hb dX8_length_6 (by decide) (fun c6 => ?_) (fun c6 => ?_)
  · refine lv_iconst (v := nI 1) hx hb dX8_length_27 (by decide) ?_
    refine pf_X8_110 C h (hM 30 (by decide)) rfl dX8_length_28 (fun H locs u3 eu3 h => ?_)
    have e4 : gi u3 28 30 = nI nB := by rw [eu3, gi_si, if_neg (by omega)]; exact hn28
    have e5 : gi u3 3 30 = nI nT := by rw [eu3, gi_si, if_neg (by omega)]; exact hn3
    have e6 : gi u3 0 30 = nI 1 := by rw [eu3, gi_si, if_pos ⟨rfl, rfl⟩]
    refine lv_aload_n hx hb dX8_length_31 rfl (lv_at hl 0 rfl) ?_
    refine gf_X8_110 C h (hM 30 (by decide)) rfl dX8_length_32 ?_
    refine x_topi e6 ?_
    refine x_ifN_le (tgt := 40) hx hb dX8_length_35 (by decide) (by decide) (fun z9 => absurd z9 (by decide)) (fun _ => ?_)
    refine lv_iconst (v := nI 0) hx hb dX8_length_38 (by decide) ?_
    exact x_iret C hr hlocks h (Or.inl ⟨by rw [show kbLen nB nT i9 t9 = 1 from by simp only [kbLen, if_true, if_false, Bool.not_true, Bool.not_false, Bool.and_true, Bool.true_and, Bool.and_false, Bool.false_and, Bool.or_true, Bool.true_or, Bool.or_false, Bool.false_or, Bool.false_eq_true, eq_self, decide_true, decide_false, c6]]; decide, rfl, by rw [eu3, show kbLen nB nT i9 t9 = 1 from by simp only [kbLen, if_true, if_false, Bool.not_true, Bool.not_false, Bool.and_true, Bool.true_and, Bool.and_false, Bool.false_and, Bool.or_true, Bool.true_or, Bool.or_false, Bool.false_or, Bool.false_eq_true, eq_self, decide_true, decide_false, c6]]⟩) dX8_length_39
  · refine lv_iload_n hx hb dX8_length_9 rfl (lv_at hl 2 rfl) ?_
    refine lv_iconst (v := nI 0) hx hb dX8_length_10 (by decide) ?_
    refine lv_aload_n hx hb dX8_length_11 rfl (lv_at hl 0 rfl) ?_
    refine gf_X8_181 C h (hM 30 (by decide)) rfl dX8_length_12 ?_
    refine x_topi hn3 ?_
    refine lv_iconst (v := nI 1) hx hb dX8_length_15 (by decide) ?_
    refine lv_isub hx hb dX8_length_16 ?_
    refine cl_X8_120 C h (c_X8_isIn l D cy ad Ls st t9 (nI 0) ((nI nT) - (nI 1))) (x_room (by omega)) ⟨Nat.zero_le _, Nat.zero_le _⟩ hl.1 (Nat.le_of_ble_eq_true rfl) dX8_length_17 (fun r8 u7 H locs hp h => ?_)
    obtain ⟨er8, eu7⟩ := hp; rw [eu7] at h; clear eu7 u7; refine x_topi er8 ?_; clear er8 r8
    refine x_ifb_eq (tgt := 27) hx hb dX8_length_20 (by decide) (fun c20 => ?_) (fun c20 => ?_)
    · refine lv_iconst (v := nI 1) hx hb dX8_length_27 (by decide) ?_
      refine pf_X8_110 C h (hM 30 (by decide)) rfl dX8_length_28 (fun H locs u9 eu9 h => ?_)
      have e10 : gi u9 28 30 = nI nB := by rw [eu9, gi_si, if_neg (by omega)]; exact hn28
      have e11 : gi u9 3 30 = nI nT := by rw [eu9, gi_si, if_neg (by omega)]; exact hn3
      have e12 : gi u9 0 30 = nI 1 := by rw [eu9, gi_si, if_pos ⟨rfl, rfl⟩]
      refine lv_aload_n hx hb dX8_length_31 rfl (lv_at hl 0 rfl) ?_
      refine gf_X8_110 C h (hM 30 (by decide)) rfl dX8_length_32 ?_
      refine x_topi e12 ?_
      refine x_ifN_le (tgt := 40) hx hb dX8_length_35 (by decide) (by decide) (fun z9 => absurd z9 (by decide)) (fun _ => ?_)
      refine lv_iconst (v := nI 0) hx hb dX8_length_38 (by decide) ?_
      exact x_iret C hr hlocks h (Or.inl ⟨by rw [show kbLen nB nT i9 t9 = 1 from by simp only [kbLen, if_true, if_false, Bool.not_true, Bool.not_false, Bool.and_true, Bool.true_and, Bool.and_false, Bool.false_and, Bool.or_true, Bool.true_or, Bool.or_false, Bool.false_or, Bool.false_eq_true, eq_self, decide_true, decide_false, c6, c20]]; decide, rfl, by rw [eu9, show kbLen nB nT i9 t9 = 1 from by simp only [kbLen, if_true, if_false, Bool.not_true, Bool.not_false, Bool.and_true, Bool.true_and, Bool.and_false, Bool.false_and, Bool.or_true, Bool.true_or, Bool.or_false, Bool.false_or, Bool.false_eq_true, eq_self, decide_true, decide_false, c6, c20]]⟩) dX8_length_39
    · refine lv_iconst (v := nI 0) hx hb dX8_length_23 (by decide) ?_
      refine lv_goto (tgt := 28) hx hb dX8_length_24 (by decide) ?_
      refine pf_X8_110 C h (hM 30 (by decide)) rfl dX8_length_28 (fun H locs u13 eu13 h => ?_)
      have e14 : gi u13 28 30 = nI nB := by rw [eu13, gi_si, if_neg (by omega)]; exact hn28
      have e15 : gi u13 3 30 = nI nT := by rw [eu13, gi_si, if_neg (by omega)]; exact hn3
      have e16 : gi u13 0 30 = nI 0 := by rw [eu13, gi_si, if_pos ⟨rfl, rfl⟩]
      refine lv_aload_n hx hb dX8_length_31 rfl (lv_at hl 0 rfl) ?_
      refine gf_X8_110 C h (hM 30 (by decide)) rfl dX8_length_32 ?_
      refine x_topi e16 ?_
      refine x_ifN_le (tgt := 40) hx hb dX8_length_35 (by decide) (by decide) (fun _ => ?_) (fun z9 => absurd z9 (by decide))
      obtain ⟨b, n, us, j, sz9, N9, o1, lo1, ei, hb30, hn6, hmany, hus, et, hj6, hsz9, hszl, hrun⟩ := hd (by simp only [kbLen, if_true, if_false, Bool.not_true, Bool.not_false, Bool.and_true, Bool.true_and, Bool.and_false, Bool.false_and, Bool.or_true, Bool.true_or, Bool.or_false, Bool.false_or, Bool.false_eq_true, eq_self, decide_true, decide_false, c6, c20])
      rw [ei, et] at hl
      replace hl : lv_has ls 3 [(0, .ref (ad 30)), (1, .int (nI b)), (2, .int (nI j))] := hl
      refine lv_aload_n hx hb dX8_length_40 rfl (lv_at hl 0 rfl) ?_
      refine lv_iconst (v := (-1)) hx hb dX8_length_41 (by decide) ?_
      refine pf_X8_240 C h (hM 30 (by decide)) rfl dX8_length_42 (fun H locs u17 eu17 h => ?_)
      have e18 : gi u17 28 30 = nI nB := by rw [eu17, gi_si, if_neg (by omega)]; exact e14
      have e19 : gi u17 3 30 = nI nT := by rw [eu17, gi_si, if_neg (by omega)]; exact e15
      have e20 : gi u17 0 30 = nI 0 := by rw [eu17, gi_si, if_neg (by omega)]; exact e16
      have e21 : gi u17 48 30 = (-1) := by rw [eu17, gi_si, if_pos ⟨rfl, rfl⟩]
      refine lv_aload_n hx hb dX8_length_45 rfl (lv_at hl 0 rfl) ?_
      refine lv_iload_n hx hb dX8_length_46 rfl (lv_at hl 1 rfl) ?_
      refine lv_iload_n hx hb dX8_length_47 rfl (lv_at hl 2 rfl) ?_
      have hu : u17 = si (si st 0 30 (nI 0)) 48 30 (-1) := by rw [eu17, eu13]
      have hK : ∀ k, ga u17 k = ga st k := by rw [hu]; exact fun _ => rfl
      have hw : ∀ k bs, wRo u17 k bs = wRo st k bs := fun k bs => funext fun i => by rw [wRo, wRo, hK]
      have hm : mnmS u17 b n us = mnmS st b n us := funext fun o => funext fun x => mnmS_K hK ..
      have hlo : gi u17 46 30 = gi st 46 30 := by rw [hu]; rfl
      have h48 : gi u17 48 30 = (-1) := by rw [hu]; rfl
      rw [← ww_id u17] at h
      refine cl_X8_276 C h (hM 30 (by decide)) rfl (c_X8_writes l D cy ad Ls u17 hM b n hb30 hn6 (by rw [hK]; exact hmany) us (by rw [hK]; exact hus) j hj6 sz9 hszl (by rw [hK]; exact hsz9) (-1) h48 _ _ _ _ _ _ N9 x1 o1 lo1 (by rw [hm, hw, hw, hw, hw, hlo]; exact hrun)) (x_room (by omega)) ⟨Nat.zero_le _, Nat.zero_le _⟩ hl.1 (Nat.le_of_ble_eq_true rfl) dX8_length_48 (fun u22 H locs hp h => ?_)
      obtain ⟨v1, Eu22⟩ := hp
      have f49 : gi u22 49 30 = x1.2 := by rw [Eu22]; exact gi_ww49
      have f47 : gi u22 47 30 = x1.1 := by rw [Eu22]; exact gi_ww47
      refine lv_aload_n hx hb dX8_length_51 rfl (lv_at hl 0 rfl) ?_
      refine gf_X8_237 C h (hM 30 (by decide)) rfl dX8_length_52 ?_
      refine x_topi f47 ?_
      exact x_iret C hr hlocks h (Or.inr ⟨by simp only [kbLen, if_true, if_false, Bool.not_true, Bool.not_false, Bool.and_true, Bool.true_and, Bool.and_false, Bool.false_and, Bool.or_true, Bool.true_or, Bool.or_false, Bool.false_or, Bool.false_eq_true, eq_self, decide_true, decide_false, c6, c20], rfl, _, by rw [← hu]; exact Eu22⟩) dX8_length_55
