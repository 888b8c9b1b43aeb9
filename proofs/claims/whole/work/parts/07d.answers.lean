/-! ===== the reference: what it answers ===== -/
theorem inR_n {x : Int32} {n : Nat} (h : inR x (nI 0) (nI n - nI 1) = true) (hn : n < 2 ^ 31) : ∃ j : Nat, j < n ∧ x = nI j := by
  obtain ⟨h1, h2⟩ := inR_t h
  obtain ⟨j, hj, rfl⟩ := nI_of (x := x) h1
  rcases Nat.eq_zero_or_pos n with rfl | hp
  · exact absurd (show nI 0 - nI 1 < nI j from i32_lt_le_trans (b := 0) (by decide) (nI_pos' hj)) h2
  · rw [pk_sub hp] at h2
    exact ⟨j, Nat.lt_of_not_le fun q => h2 (nI_lt (by omega) hj), rfl⟩
def kbInv (nB : Nat) (i w : Int32) : Nat := if !inR i (nI 0) (nI nB - nI 1) then 1 else if !inR w (nI 0) (nI 7) then 2 else 0
def kbBill (nB : Nat) (i : Int32) : Nat := if inR i (nI 0) (nI nB - nI 1) then 0 else 1
def kbPlace (p : Int32) : Nat := if inR p (nI 0) (nI 3) then 0 else 1

set_option maxHeartbeats 4000000 in
set_option maxRecDepth 100000 in
theorem c_X8_telling (l : Launch) (D : va_G) (cy : Nat → ClassId) (ad : Nat → Nat) (Ls : List Nat) (st : XS) (hM : ∀ k, k ∈ LsM → k ∈ Ls) (n : Nat) (hn60 : n ≤ 60) (hn17 : gi st 17 30 = nI n) (p9 k9 d9 : Int32) : xMi l yX8_telling cX8_telling 5 (some .int) 2 D cy ad Ls st [.ref (ad 30), .int p9, .int k9, .int d9] (fun r u => (¬ kbTell p9 k9 d9 = 0 ∧ r = nI 0 ∧ u = si st 0 30 (nI (kbTell p9 k9 d9))) ∨ (kbTell p9 k9 d9 = 0 ∧ r = oI (mtS st n p9 k9 d9) ∧ u = si st 0 30 (nI 0))) := by
  intro sz
  refine x_of sz (by decide +kernel) (Nat.le_of_ble_eq_true rfl) ?_
  intro p e s m args below meth c ls hx hb hr hlocks C hsz h hl
  have hl : lv_has ls 5 [(0, .ref (ad 30)), (1, .int p9), (2, .int k9), (3, .int d9)] := hl
  obtain ⟨H, eH⟩ : ∃ z, z = s.heap := ⟨_, rfl⟩
  obtain ⟨locs, eL⟩ : ∃ z : List Loc, z = [] := ⟨_, rfl⟩
  rw [← eH, ← eL] at h
  rw [← eH, ← eL]
  clear eH eL
  refine lv_iload_n hx hb dX8_telling_0 rfl (lv_at hl 1 rfl) ?_
  refine cl_X8_190 C h (c_X8_isFour l D cy ad Ls st p9) (x_room (by omega)) ⟨Nat.zero_le _, Nat.zero_le _⟩ hl.1 (Nat.le_of_ble_eq_true rfl) dX8_telling_1 (fun r2 u1 H locs hp h => ?_)
  obtain ⟨er2, eu1⟩ := hp; rw [eu1] at h; clear eu1 u1; refine x_topi er2 ?_; clear er2 r2
  refine x_ifb_eq (tgt := 18) hx hb dX8_telling_4 (by decide) (fun c4 => ?_) (fun c4 => ?_)
  · refine lv_iconst (v := nI 0) hx hb dX8_telling_18 (by decide) ?_
    refine lv_istore (lv' := [(4, .int (nI 0)), (0, .ref (ad 30)), (1, .int p9), (2, .int k9), (3, .int d9)]) hx hb dX8_telling_19 hl (by decide) rfl (fun ls hl => ?_)
    refine lv_aload_n hx hb dX8_telling_21 rfl (lv_at hl 1 rfl) ?_
    refine lv_iload hx hb dX8_telling_22 (lv_at hl 0 rfl) ?_
    refine x_ifN_ne (tgt := 31) hx hb dX8_telling_24 (by decide) (by decide) (fun z9 => absurd z9 (by decide)) (fun _ => ?_)
    refine lv_iconst (v := nI 1) hx hb dX8_telling_27 (by decide) ?_
    refine lv_goto (tgt := 47) hx hb dX8_telling_28 (by decide) ?_
    refine pf_X8_110 C h (hM 30 (by decide)) rfl dX8_telling_47 (fun H locs u3 eu3 h => ?_)
    have e4 : gi u3 17 30 = nI n := by rw [eu3, gi_si, if_neg (by omega)]; exact hn17
    have e5 : gi u3 0 30 = nI 1 := by rw [eu3, gi_si, if_pos ⟨rfl, rfl⟩]
    refine lv_aload_n hx hb dX8_telling_50 rfl (lv_at hl 1 rfl) ?_
    refine gf_X8_110 C h (hM 30 (by decide)) rfl dX8_telling_51 ?_
    refine x_topi e5 ?_
    refine x_ifN_le (tgt := 61) hx hb dX8_telling_54 (by decide) (by decide) (fun z9 => absurd z9 (by decide)) (fun _ => ?_)
    refine lv_iconst (v := nI 0) hx hb dX8_telling_57 (by decide) ?_
    refine lv_goto (tgt := 68) hx hb dX8_telling_58 (by decide) ?_
    exact x_iret C hr hlocks h (Or.inl ⟨by rw [show kbTell p9 k9 d9 = 1 from by simp only [kbTell, if_true, if_false, Bool.not_true, Bool.not_false, Bool.and_true, Bool.true_and, Bool.and_false, Bool.false_and, Bool.or_true, Bool.true_or, Bool.or_false, Bool.false_or, Bool.false_eq_true, eq_self, decide_true, decide_false, c4]]; decide, rfl, by rw [eu3, show kbTell p9 k9 d9 = 1 from by simp only [kbTell, if_true, if_false, Bool.not_true, Bool.not_false, Bool.and_true, Bool.true_and, Bool.and_false, Bool.false_and, Bool.or_true, Bool.true_or, Bool.or_false, Bool.false_or, Bool.false_eq_true, eq_self, decide_true, decide_false, c4]]⟩) dX8_telling_68
  · refine lv_iload_n hx hb dX8_telling_7 rfl (lv_at hl 2 rfl) ?_
    refine cl_X8_190 C h (c_X8_isFour l D cy ad Ls st k9) (x_room (by omega)) ⟨Nat.zero_le _, Nat.zero_le _⟩ hl.1 (Nat.le_of_ble_eq_true rfl) dX8_telling_8 (fun r7 u6 H locs hp h => ?_)
    obtain ⟨er7, eu6⟩ := hp; rw [eu6] at h; clear eu6 u6; refine x_topi er7 ?_; clear er7 r7
    refine x_ifb_eq (tgt := 18) hx hb dX8_telling_11 (by decide) (fun c11 => ?_) (fun c11 => ?_)
    · refine lv_iconst (v := nI 0) hx hb dX8_telling_18 (by decide) ?_
      refine lv_istore (lv' := [(4, .int (nI 0)), (0, .ref (ad 30)), (1, .int p9), (2, .int k9), (3, .int d9)]) hx hb dX8_telling_19 hl (by decide) rfl (fun ls hl => ?_)
      refine lv_aload_n hx hb dX8_telling_21 rfl (lv_at hl 1 rfl) ?_
      refine lv_iload hx hb dX8_telling_22 (lv_at hl 0 rfl) ?_
      refine x_ifN_ne (tgt := 31) hx hb dX8_telling_24 (by decide) (by decide) (fun z9 => absurd z9 (by decide)) (fun _ => ?_)
      refine lv_iconst (v := nI 1) hx hb dX8_telling_27 (by decide) ?_
      refine lv_goto (tgt := 47) hx hb dX8_telling_28 (by decide) ?_
      refine pf_X8_110 C h (hM 30 (by decide)) rfl dX8_telling_47 (fun H locs u8 eu8 h => ?_)
      have e9 : gi u8 17 30 = nI n := by rw [eu8, gi_si, if_neg (by omega)]; exact hn17
      have e10 : gi u8 0 30 = nI 1 := by rw [eu8, gi_si, if_pos ⟨rfl, rfl⟩]
      refine lv_aload_n hx hb dX8_telling_50 rfl (lv_at hl 1 rfl) ?_
      refine gf_X8_110 C h (hM 30 (by decide)) rfl dX8_telling_51 ?_
      refine x_topi e10 ?_
      refine x_ifN_le (tgt := 61) hx hb dX8_telling_54 (by decide) (by decide) (fun z9 => absurd z9 (by decide)) (fun _ => ?_)
      refine lv_iconst (v := nI 0) hx hb dX8_telling_57 (by decide) ?_
      refine lv_goto (tgt := 68) hx hb dX8_telling_58 (by decide) ?_
      exact x_iret C hr hlocks h (Or.inl ⟨by rw [show kbTell p9 k9 d9 = 1 from by simp only [kbTell, if_true, if_false, Bool.not_true, Bool.not_false, Bool.and_true, Bool.true_and, Bool.and_false, Bool.false_and, Bool.or_true, Bool.true_or, Bool.or_false, Bool.false_or, Bool.false_eq_true, eq_self, decide_true, decide_false, c4, c11]]; decide, rfl, by rw [eu8, show kbTell p9 k9 d9 = 1 from by simp only [kbTell, if_true, if_false, Bool.not_true, Bool.not_false, Bool.and_true, Bool.true_and, Bool.and_false, Bool.false_and, Bool.or_true, Bool.true_or, Bool.or_false, Bool.false_or, Bool.false_eq_true, eq_self, decide_true, decide_false, c4, c11]]⟩) dX8_telling_68
    · refine lv_iconst (v := nI 1) hx hb dX8_telling_14 (by decide) ?_
      refine lv_goto (tgt := 19) hx hb dX8_telling_15 (by decide) ?_
      refine lv_istore (lv' := [(4, .int (nI 1)), (0, .ref (ad 30)), (1, .int p9), (2, .int k9), (3, .int d9)]) hx hb dX8_telling_19 hl (by decide) rfl (fun ls hl => ?_)
      refine lv_aload_n hx hb dX8_telling_21 rfl (lv_at hl 1 rfl) ?_
      refine lv_iload hx hb dX8_telling_22 (lv_at hl 0 rfl) ?_
      refine x_ifN_ne (tgt := 31) hx hb dX8_telling_24 (by decide) (by decide) (fun _ => ?_) (fun z9 => absurd z9 (by decide))
      refine lv_iload_n hx hb dX8_telling_31 rfl (lv_at hl 4 rfl) ?_
      refine lv_iconst (v := nI 0) hx hb dX8_telling_32 (by decide) ?_
      refine lv_sipush (v := nI 9999) hx hb dX8_telling_33 (by decide) ?_
      refine cl_X8_120 C h (c_X8_isIn l D cy ad Ls st d9 (nI 0) (nI 9999)) (x_room (by omega)) ⟨Nat.zero_le _, Nat.zero_le _⟩ hl.1 (Nat.le_of_ble_eq_true rfl) dX8_telling_36 (fun r12 u11 H locs hp h => ?_)
      obtain ⟨er12, eu11⟩ := hp; rw [eu11] at h; clear eu11 u11; refine x_topi er12 ?_; clear er12 r12
      refine x_ifb_ne (tgt := 46) hx hb dX8_telling_39 (by decide) (fun c39 => ?_) (fun c39 => ?_)
      · refine lv_iconst (v := nI 0) hx hb dX8_telling_46 (by decide) ?_
        refine pf_X8_110 C h (hM 30 (by decide)) rfl dX8_telling_47 (fun H locs u13 eu13 h => ?_)
        have e14 : gi u13 17 30 = nI n := by rw [eu13, gi_si, if_neg (by omega)]; exact hn17
        have e15 : gi u13 0 30 = nI 0 := by rw [eu13, gi_si, if_pos ⟨rfl, rfl⟩]
        refine lv_aload_n hx hb dX8_telling_50 rfl (lv_at hl 1 rfl) ?_
        refine gf_X8_110 C h (hM 30 (by decide)) rfl dX8_telling_51 ?_
        refine x_topi e15 ?_
        refine x_ifN_le (tgt := 61) hx hb dX8_telling_54 (by decide) (by decide) (fun _ => ?_) (fun z9 => absurd z9 (by decide))
        refine lv_aload_n hx hb dX8_telling_61 rfl (lv_at hl 1 rfl) ?_
        refine lv_iload_n hx hb dX8_telling_62 rfl (lv_at hl 2 rfl) ?_
        refine lv_iload_n hx hb dX8_telling_63 rfl (lv_at hl 3 rfl) ?_
        refine lv_iload_n hx hb dX8_telling_64 rfl (lv_at hl 4 rfl) ?_
        refine cl_X8_196 C h (hM 30 (by decide)) rfl (c_X8_tellingOf l D cy ad Ls u13 hM n hn60 (by rw [eu13]; exact hn17) p9 k9 d9) (x_room (by omega)) ⟨Nat.zero_le _, Nat.zero_le _⟩ hl.1 (Nat.le_of_ble_eq_true rfl) dX8_telling_65 (fun r17 u16 H locs hp h => ?_)
        obtain ⟨er17, eu16⟩ := hp; rw [eu16] at h; clear eu16 u16; refine x_topi er17 ?_; clear er17 r17
        refine x_topi (y := oI (mtS st n p9 k9 d9)) (by rw [eu13]; rfl) ?_
        exact x_iret C hr hlocks h (Or.inr ⟨by simp only [kbTell, if_true, if_false, Bool.not_true, Bool.not_false, Bool.and_true, Bool.true_and, Bool.and_false, Bool.false_and, Bool.or_true, Bool.true_or, Bool.or_false, Bool.false_or, Bool.false_eq_true, eq_self, decide_true, decide_false, c4, c11, c39], rfl, eu13⟩) dX8_telling_68
      · refine lv_iconst (v := nI 2) hx hb dX8_telling_42 (by decide) ?_
        refine lv_goto (tgt := 47) hx hb dX8_telling_43 (by decide) ?_
        refine pf_X8_110 C h (hM 30 (by decide)) rfl dX8_telling_47 (fun H locs u18 eu18 h => ?_)
        have e19 : gi u18 17 30 = nI n := by rw [eu18, gi_si, if_neg (by omega)]; exact hn17
        have e20 : gi u18 0 30 = nI 2 := by rw [eu18, gi_si, if_pos ⟨rfl, rfl⟩]
        refine lv_aload_n hx hb dX8_telling_50 rfl (lv_at hl 1 rfl) ?_
        refine gf_X8_110 C h (hM 30 (by decide)) rfl dX8_telling_51 ?_
        refine x_topi e20 ?_
        refine x_ifN_le (tgt := 61) hx hb dX8_telling_54 (by decide) (by decide) (fun z9 => absurd z9 (by decide)) (fun _ => ?_)
        refine lv_iconst (v := nI 0) hx hb dX8_telling_57 (by decide) ?_
        refine lv_goto (tgt := 68) hx hb dX8_telling_58 (by decide) ?_
        exact x_iret C hr hlocks h (Or.inl ⟨by rw [show kbTell p9 k9 d9 = 2 from by simp only [kbTell, if_true, if_false, Bool.not_true, Bool.not_false, Bool.and_true, Bool.true_and, Bool.and_false, Bool.false_and, Bool.or_true, Bool.true_or, Bool.or_false, Bool.false_or, Bool.false_eq_true, eq_self, decide_true, decide_false, c4, c11, c39]]; decide, rfl, by rw [eu18, show kbTell p9 k9 d9 = 2 from by simp only [kbTell, if_true, if_false, Bool.not_true, Bool.not_false, Bool.and_true, Bool.true_and, Bool.and_false, Bool.false_and, Bool.or_true, Bool.true_or, Bool.or_false, Bool.false_or, Bool.false_eq_true, eq_self, decide_true, decide_false, c4, c11, c39]]⟩) dX8_telling_68

set_option maxHeartbeats 4000000 in
set_option maxRecDepth 100000 in
theorem c_X8_note (l : Launch) (D : va_G) (cy : Nat → ClassId) (ad : Nat → Nat) (Ls : List Nat) (st : XS) (hM : ∀ k, k ∈ LsM → k ∈ Ls) (n : Nat) (hn40 : n ≤ 40) (hn41 : gi st 41 30 = nI n) (i9 w9 : Int32) : xMi l yX8_note cX8_note 3 (some .int) 1 D cy ad Ls st [.ref (ad 30), .int i9, .int w9] (fun r u => (¬ kbNote n i9 w9 = 0 ∧ r = nI 0 ∧ u = si st 0 30 (nI (kbNote n i9 w9))) ∨ (kbNote n i9 w9 = 0 ∧ ∃ j : Nat, j < n ∧ i9 = nI j ∧ r = (if w9 = 0 then ga st 72 j else if w9 = nI 1 then ga st 73 j else ga st 74 j) ∧ u = si st 0 30 (nI 0))) := by
  intro sz
  refine x_of sz (by decide +kernel) (Nat.le_of_ble_eq_true rfl) ?_
  intro p e s m args below meth c ls hx hb hr hlocks C hsz h hl
  have hl : lv_has ls 3 [(0, .ref (ad 30)), (1, .int i9), (2, .int w9)] := hl
  obtain ⟨H, eH⟩ : ∃ z, z = s.heap := ⟨_, rfl⟩
  obtain ⟨locs, eL⟩ : ∃ z : List Loc, z = [] := ⟨_, rfl⟩
  rw [← eH, ← eL] at h
  rw [← eH, ← eL]
  clear eH eL
  refine lv_aload_n hx hb dX8_note_0 rfl (lv_at hl 0 rfl) ?_
  refine lv_iload_n hx hb dX8_note_1 rfl (lv_at hl 1 rfl) ?_
  refine lv_iconst (v := nI 0) hx hb dX8_note_2 (by decide) ?_
  refine lv_aload_n hx hb dX8_note_3 rfl (lv_at hl 0 rfl) ?_
  refine gf_X8_219 C h (hM 30 (by decide)) rfl dX8_note_4 ?_
  refine x_topi hn41 ?_
  refine lv_iconst (v := nI 1) hx hb dX8_note_7 (by decide) ?_
  refine lv_isub hx hb dX8_note_8 ?_
  refine cl_X8_120 C h (c_X8_isIn l D cy ad Ls st i9 (nI 0) ((nI n) - (nI 1))) (x_room (by omega)) ⟨Nat.zero_le _, Nat.zero_le _⟩ hl.1 (Nat.le_of_ble_eq_true rfl) dX8_note_9 (fun r2 u1 H locs hp h => ?_)
  obtain ⟨er2, eu1⟩ := hp; rw [eu1] at h; clear eu1 u1; refine x_topi er2 ?_; clear er2 r2
  refine x_ifb_ne (tgt := 19) hx hb dX8_note_12 (by decide) (fun c12 => ?_) (fun c12 => ?_)
  · refine lv_iload_n hx hb dX8_note_19 rfl (lv_at hl 2 rfl) ?_
    refine lv_iconst (v := nI 0) hx hb dX8_note_20 (by decide) ?_
    refine lv_iconst (v := nI 2) hx hb dX8_note_21 (by decide) ?_
    refine cl_X8_120 C h (c_X8_isIn l D cy ad Ls st w9 (nI 0) (nI 2)) (x_room (by omega)) ⟨Nat.zero_le _, Nat.zero_le _⟩ hl.1 (Nat.le_of_ble_eq_true rfl) dX8_note_22 (fun r4 u3 H locs hp h => ?_)
    obtain ⟨er4, eu3⟩ := hp; rw [eu3] at h; clear eu3 u3; refine x_topi er4 ?_; clear er4 r4
    refine x_ifb_ne (tgt := 32) hx hb dX8_note_25 (by decide) (fun c25 => ?_) (fun c25 => ?_)
    · refine lv_iconst (v := nI 0) hx hb dX8_note_32 (by decide) ?_
      refine pf_X8_110 C h (hM 30 (by decide)) rfl dX8_note_33 (fun H locs u5 eu5 h => ?_)
      have e6 : gi u5 41 30 = nI n := by rw [eu5, gi_si, if_neg (by omega)]; exact hn41
      have e7 : gi u5 0 30 = nI 0 := by rw [eu5, gi_si, if_pos ⟨rfl, rfl⟩]
      refine lv_aload_n hx hb dX8_note_36 rfl (lv_at hl 0 rfl) ?_
      refine gf_X8_110 C h (hM 30 (by decide)) rfl dX8_note_37 ?_
      refine x_topi e7 ?_
      refine x_ifN_le (tgt := 47) hx hb dX8_note_40 (by decide) (by decide) (fun _ => ?_) (fun z9 => absurd z9 (by decide))
      refine lv_iload_n hx hb dX8_note_47 rfl (lv_at hl 2 rfl) ?_
      refine lv_if_ne (tgt := 60) hx hb dX8_note_48 (by decide) (fun c48 => ?_) (fun c48 => ?_)
      · refine lv_iload_n hx hb dX8_note_60 rfl (lv_at hl 2 rfl) ?_
        refine lv_iconst (v := nI 1) hx hb dX8_note_61 (by decide) ?_
        refine lv_icmp_ne (tgt := 74) hx hb dX8_note_62 (by decide) (fun c62 => ?_) (fun c62 => ?_)
        · refine lv_aload_n hx hb dX8_note_74 rfl (lv_at hl 0 rfl) ?_
          refine gf_X8_107 C h (hM 30 (by decide)) rfl (k2 := 74) rfl dX8_note_75 ?_
          refine lv_iload_n hx hb dX8_note_78 rfl (lv_at hl 1 rfl) ?_
          obtain ⟨j, hj, ej⟩ := inR_n c12 (by omega)
          refine x_ald C h (hM 74 (by decide)) (n := 40) rfl j (by omega) (by decide) ej dX8_note_79 ?_
          exact x_iret C hr hlocks h (Or.inr ⟨by simp only [kbNote, if_true, if_false, Bool.not_true, Bool.not_false, Bool.and_true, Bool.true_and, Bool.and_false, Bool.false_and, Bool.or_true, Bool.true_or, Bool.or_false, Bool.false_or, Bool.false_eq_true, eq_self, decide_true, decide_false, c12, c25], j, hj, ej, by rw [if_neg c48, if_neg c62, eu5]; rfl, eu5⟩) dX8_note_80
        · refine lv_aload_n hx hb dX8_note_65 rfl (lv_at hl 0 rfl) ?_
          refine gf_X8_104 C h (hM 30 (by decide)) rfl (k2 := 73) rfl dX8_note_66 ?_
          refine lv_iload_n hx hb dX8_note_69 rfl (lv_at hl 1 rfl) ?_
          obtain ⟨j, hj, ej⟩ := inR_n c12 (by omega)
          refine x_ald C h (hM 73 (by decide)) (n := 40) rfl j (by omega) (by decide) ej dX8_note_70 ?_
          refine lv_goto (tgt := 80) hx hb dX8_note_71 (by decide) ?_
          exact x_iret C hr hlocks h (Or.inr ⟨by simp only [kbNote, if_true, if_false, Bool.not_true, Bool.not_false, Bool.and_true, Bool.true_and, Bool.and_false, Bool.false_and, Bool.or_true, Bool.true_or, Bool.or_false, Bool.false_or, Bool.false_eq_true, eq_self, decide_true, decide_false, c12, c25], j, hj, ej, by rw [if_neg c48, if_pos c62, eu5]; rfl, eu5⟩) dX8_note_80
      · refine lv_aload_n hx hb dX8_note_51 rfl (lv_at hl 0 rfl) ?_
        refine gf_X8_101 C h (hM 30 (by decide)) rfl (k2 := 72) rfl dX8_note_52 ?_
        refine lv_iload_n hx hb dX8_note_55 rfl (lv_at hl 1 rfl) ?_
        obtain ⟨j, hj, ej⟩ := inR_n c12 (by omega)
        refine x_ald C h (hM 72 (by decide)) (n := 40) rfl j (by omega) (by decide) ej dX8_note_56 ?_
        refine lv_goto (tgt := 80) hx hb dX8_note_57 (by decide) ?_
        exact x_iret C hr hlocks h (Or.inr ⟨by simp only [kbNote, if_true, if_false, Bool.not_true, Bool.not_false, Bool.and_true, Bool.true_and, Bool.and_false, Bool.false_and, Bool.or_true, Bool.true_or, Bool.or_false, Bool.false_or, Bool.false_eq_true, eq_self, decide_true, decide_false, c12, c25], j, hj, ej, by rw [if_pos c48, eu5]; rfl, eu5⟩) dX8_note_80
    · refine lv_iconst (v := nI 2) hx hb dX8_note_28 (by decide) ?_
      refine lv_goto (tgt := 33) hx hb dX8_note_29 (by decide) ?_
      refine pf_X8_110 C h (hM 30 (by decide)) rfl dX8_note_33 (fun H locs u8 eu8 h => ?_)
      have e9 : gi u8 41 30 = nI n := by rw [eu8, gi_si, if_neg (by omega)]; exact hn41
      have e10 : gi u8 0 30 = nI 2 := by rw [eu8, gi_si, if_pos ⟨rfl, rfl⟩]
      refine lv_aload_n hx hb dX8_note_36 rfl (lv_at hl 0 rfl) ?_
      refine gf_X8_110 C h (hM 30 (by decide)) rfl dX8_note_37 ?_
      refine x_topi e10 ?_
      refine x_ifN_le (tgt := 47) hx hb dX8_note_40 (by decide) (by decide) (fun z9 => absurd z9 (by decide)) (fun _ => ?_)
      refine lv_iconst (v := nI 0) hx hb dX8_note_43 (by decide) ?_
      refine lv_goto (tgt := 80) hx hb dX8_note_44 (by decide) ?_
      exact x_iret C hr hlocks h (Or.inl ⟨by rw [show kbNote n i9 w9 = 2 from by simp only [kbNote, if_true, if_false, Bool.not_true, Bool.not_false, Bool.and_true, Bool.true_and, Bool.and_false, Bool.false_and, Bool.or_true, Bool.true_or, Bool.or_false, Bool.false_or, Bool.false_eq_true, eq_self, decide_true, decide_false, c12, c25]]; decide, rfl, by rw [eu8, show kbNote n i9 w9 = 2 from by simp only [kbNote, if_true, if_false, Bool.not_true, Bool.not_false, Bool.and_true, Bool.true_and, Bool.and_false, Bool.false_and, Bool.or_true, Bool.true_or, Bool.or_false, Bool.false_or, Bool.false_eq_true, eq_self, decide_true, decide_false, c12, c25]]⟩) dX8_note_80
  · refine lv_iconst (v := nI 1) hx hb dX8_note_15 (by decide) ?_
    refine lv_goto (tgt := 33) hx hb dX8_note_16 (by decide) ?_
    refine pf_X8_110 C h (hM 30 (by decide)) rfl dX8_note_33 (fun H locs u11 eu11 h => ?_)
    have e12 : gi u11 41 30 = nI n := by rw [eu11, gi_si, if_neg (by omega)]; exact hn41
    have e13 : gi u11 0 30 = nI 1 := by rw [eu11, gi_si, if_pos ⟨rfl, rfl⟩]
    refine lv_aload_n hx hb dX8_note_36 rfl (lv_at hl 0 rfl) ?_
    refine gf_X8_110 C h (hM 30 (by decide)) rfl dX8_note_37 ?_
    refine x_topi e13 ?_
    refine x_ifN_le (tgt := 47) hx hb dX8_note_40 (by decide) (by decide) (fun z9 => absurd z9 (by decide)) (fun _ => ?_)
    refine lv_iconst (v := nI 0) hx hb dX8_note_43 (by decide) ?_
    refine lv_goto (tgt := 80) hx hb dX8_note_44 (by decide) ?_
    exact x_iret C hr hlocks h (Or.inl ⟨by rw [show kbNote n i9 w9 = 1 from by simp only [kbNote, if_true, if_false, Bool.not_true, Bool.not_false, Bool.and_true, Bool.true_and, Bool.and_false, Bool.false_and, Bool.or_true, Bool.true_or, Bool.or_false, Bool.false_or, Bool.false_eq_true, eq_self, decide_true, decide_false, c12]]; decide, rfl, by rw [eu11, show kbNote n i9 w9 = 1 from by simp only [kbNote, if_true, if_false, Bool.not_true, Bool.not_false, Bool.and_true, Bool.true_and, Bool.and_false, Bool.false_and, Bool.or_true, Bool.true_or, Bool.or_false, Bool.false_or, Bool.false_eq_true, eq_self, decide_true, decide_false, c12]]⟩) dX8_note_80

theorem msS_si (st : XS) (f q : Nat) (v : Int32) (b : Nat) : ∀ k, msS (si st f q v) b k = msS st b k := by
  intro k
  induction k with
  | zero => rfl
  | succ k ih => rw [msS, msS, ih]; rfl
theorem mxS_si (st : XS) (f q : Nat) (v : Int32) (b : Nat) : ∀ k, mxS (si st f q v) b k = mxS st b k := by
  intro k
  induction k with
  | zero => rfl
  | succ k ih => rw [mxS, mxS, ih]; rfl
def mivS (st : XS) (b n nn : Nat) (w : Int32) : Int32 := if w = nI 0 then ga st 59 b else if w = nI 1 then ga st 60 b else if w = nI 2 then ga st 61 b else if w = nI 3 then msS st b n else if w = nI 4 then ga st 68 b else if w = nI 5 then mxS st b nn else if w = nI 6 then ga st 62 b else ga st 63 b

set_option maxHeartbeats 4000000 in
set_option maxRecDepth 100000 in
theorem c_X8_invoice (l : Launch) (D : va_G) (cy : Nat → ClassId) (ad : Nat → Nat) (Ls : List Nat) (st : XS) (hM : ∀ k, k ∈ LsM → k ∈ Ls) (nB : Nat) (hnB : nB ≤ 30) (hn28 : gi st 28 30 = nI nB) (ln : Nat → Nat) (hmany : ∀ b, b < nB → ln b ≤ 6 ∧ ga st 61 b = nI (ln b)) (nn : Nat) (hn40 : nn ≤ 40) (hn41 : gi st 41 30 = nI nn) (x w9 : Int32) : xMi l yX8_invoice cX8_invoice 3 (some .int) 2 D cy ad Ls st [.ref (ad 30), .int x, .int w9] (fun r u => (¬ kbInv nB x w9 = 0 ∧ r = nI 0 ∧ u = si st 0 30 (nI (kbInv nB x w9))) ∨ (kbInv nB x w9 = 0 ∧ ∃ b : Nat, b < nB ∧ x = nI b ∧ r = mivS st b (ln b) nn w9 ∧ u = si st 0 30 (nI 0))) := by
  intro sz
  refine x_of sz (by decide +kernel) (Nat.le_of_ble_eq_true rfl) ?_
  intro p e s m args below meth c ls hx hb hr hlocks C hsz h hl
  have hl : lv_has ls 3 [(0, .ref (ad 30)), (1, .int x), (2, .int w9)] := hl
  obtain ⟨H, eH⟩ : ∃ z, z = s.heap := ⟨_, rfl⟩
  obtain ⟨locs, eL⟩ : ∃ z : List Loc, z = [] := ⟨_, rfl⟩
  rw [← eH, ← eL] at h
  rw [← eH, ← eL]
  clear eH eL
  refine lv_aload_n hx hb dX8_invoice_0 rfl (lv_at hl 0 rfl) ?_
  refine lv_aload_n hx hb dX8_invoice_1 rfl (lv_at hl 0 rfl) ?_
  refine lv_iload_n hx hb dX8_invoice_2 rfl (lv_at hl 1 rfl) ?_
  refine cl_X8_222 C h (hM 30 (by decide)) rfl (c_X8_isInvoice l D cy ad Ls st hM nB hn28 x) (x_room (by omega)) ⟨Nat.zero_le _, Nat.zero_le _⟩ hl.1 (Nat.le_of_ble_eq_true rfl) dX8_invoice_3 (fun r2 u1 H locs hp h => ?_)
  obtain ⟨er2, eu1⟩ := hp; rw [eu1] at h; clear eu1 u1; refine x_topi er2 ?_; clear er2 r2
  refine x_ifb_ne (tgt := 13) hx hb dX8_invoice_6 (by decide) (fun c6 => ?_) (fun c6 => ?_)
  · refine lv_iload_n hx hb dX8_invoice_13 rfl (lv_at hl 2 rfl) ?_
    refine lv_iconst (v := nI 0) hx hb dX8_invoice_14 (by decide) ?_
    refine lv_bipush (v := nI 7) hx hb dX8_invoice_15 (by decide) ?_
    refine cl_X8_120 C h (c_X8_isIn l D cy ad Ls st w9 (nI 0) (nI 7)) (x_room (by omega)) ⟨Nat.zero_le _, Nat.zero_le _⟩ hl.1 (Nat.le_of_ble_eq_true rfl) dX8_invoice_17 (fun r4 u3 H locs hp h => ?_)
    obtain ⟨er4, eu3⟩ := hp; rw [eu3] at h; clear eu3 u3; refine x_topi er4 ?_; clear er4 r4
    refine x_ifb_ne (tgt := 27) hx hb dX8_invoice_20 (by decide) (fun c20 => ?_) (fun c20 => ?_)
    · refine lv_iconst (v := nI 0) hx hb dX8_invoice_27 (by decide) ?_
      refine pf_X8_110 C h (hM 30 (by decide)) rfl dX8_invoice_28 (fun H locs u5 eu5 h => ?_)
      have e6 : gi u5 0 30 = nI 0 := by rw [eu5, gi_si, if_pos ⟨rfl, rfl⟩]
      refine lv_aload_n hx hb dX8_invoice_31 rfl (lv_at hl 0 rfl) ?_
      refine gf_X8_110 C h (hM 30 (by decide)) rfl dX8_invoice_32 ?_
      refine x_topi e6 ?_
      refine x_ifN_le (tgt := 40) hx hb dX8_invoice_35 (by decide) (by decide) (fun _ => ?_) (fun z9 => absurd z9 (by decide))
      refine lv_iload_n hx hb dX8_invoice_40 rfl (lv_at hl 2 rfl) ?_
      by_cases g41_0 : w9 = nI 0
      · refine x_topi g41_0 ?_
        refine lv_tableIn (tgt := 84) (off := 43) hx hb dX8_invoice_41 (by decide) (by decide) (by decide) (by decide) ?_
        refine lv_aload_n hx hb dX8_invoice_84 rfl (lv_at hl 0 rfl) ?_
        refine gf_X8_65 C h (hM 30 (by decide)) rfl (k2 := 59) rfl dX8_invoice_85 ?_
        refine lv_iload_n hx hb dX8_invoice_88 rfl (lv_at hl 1 rfl) ?_
        obtain ⟨b, hbn, eb⟩ := inR_n c6 (by omega)
        refine x_ald C h (hM 59 (by decide)) (n := 30) rfl b (by omega) (by decide) eb dX8_invoice_89 ?_
        exact x_iret C hr hlocks h (Or.inr ⟨by simp only [kbInv, if_true, if_false, Bool.not_true, Bool.not_false, Bool.and_true, Bool.true_and, Bool.and_false, Bool.false_and, Bool.or_true, Bool.true_or, Bool.or_false, Bool.false_or, Bool.false_eq_true, eq_self, decide_true, decide_false, c6, c20], b, hbn, eb, by rw [mivS, if_pos g41_0, eu5]; rfl, eu5⟩) dX8_invoice_90
      by_cases g41_1 : w9 = nI 1
      · refine x_topi g41_1 ?_
        refine lv_tableIn (tgt := 91) (off := 50) hx hb dX8_invoice_41 (by decide) (by decide) (by decide) (by decide) ?_
        refine lv_aload_n hx hb dX8_invoice_91 rfl (lv_at hl 0 rfl) ?_
        refine gf_X8_68 C h (hM 30 (by decide)) rfl (k2 := 60) rfl dX8_invoice_92 ?_
        refine lv_iload_n hx hb dX8_invoice_95 rfl (lv_at hl 1 rfl) ?_
        obtain ⟨b, hbn, eb⟩ := inR_n c6 (by omega)
        refine x_ald C h (hM 60 (by decide)) (n := 30) rfl b (by omega) (by decide) eb dX8_invoice_96 ?_
        exact x_iret C hr hlocks h (Or.inr ⟨by simp only [kbInv, if_true, if_false, Bool.not_true, Bool.not_false, Bool.and_true, Bool.true_and, Bool.and_false, Bool.false_and, Bool.or_true, Bool.true_or, Bool.or_false, Bool.false_or, Bool.false_eq_true, eq_self, decide_true, decide_false, c6, c20], b, hbn, eb, by rw [mivS, if_neg (by rw [g41_1]; decide), if_pos g41_1, eu5]; rfl, eu5⟩) dX8_invoice_97
      by_cases g41_2 : w9 = nI 2
      · refine x_topi g41_2 ?_
        refine lv_tableIn (tgt := 98) (off := 57) hx hb dX8_invoice_41 (by decide) (by decide) (by decide) (by decide) ?_
        refine lv_aload_n hx hb dX8_invoice_98 rfl (lv_at hl 0 rfl) ?_
        refine gf_X8_71 C h (hM 30 (by decide)) rfl (k2 := 61) rfl dX8_invoice_99 ?_
        refine lv_iload_n hx hb dX8_invoice_102 rfl (lv_at hl 1 rfl) ?_
        obtain ⟨b, hbn, eb⟩ := inR_n c6 (by omega)
        refine x_ald C h (hM 61 (by decide)) (n := 30) rfl b (by omega) (by decide) eb dX8_invoice_103 ?_
        exact x_iret C hr hlocks h (Or.inr ⟨by simp only [kbInv, if_true, if_false, Bool.not_true, Bool.not_false, Bool.and_true, Bool.true_and, Bool.and_false, Bool.false_and, Bool.or_true, Bool.true_or, Bool.or_false, Bool.false_or, Bool.false_eq_true, eq_self, decide_true, decide_false, c6, c20], b, hbn, eb, by rw [mivS, if_neg (by rw [g41_2]; decide), if_neg (by rw [g41_2]; decide), if_pos g41_2, eu5]; rfl, eu5⟩) dX8_invoice_104
      by_cases g41_3 : w9 = nI 3
      · refine x_topi g41_3 ?_
        refine lv_tableIn (tgt := 105) (off := 64) hx hb dX8_invoice_41 (by decide) (by decide) (by decide) (by decide) ?_
        refine lv_aload_n hx hb dX8_invoice_105 rfl (lv_at hl 0 rfl) ?_
        refine lv_iload_n hx hb dX8_invoice_106 rfl (lv_at hl 1 rfl) ?_
        obtain ⟨b, hbn, eb⟩ := inR_n c6 (by omega)
        subst eb
        refine cl_X8_225 C h (hM 30 (by decide)) rfl (c_X8_sumOf l D cy ad Ls u5 hM b (ln b) (by omega) (hmany b hbn).1 (by rw [eu5]; exact (hmany b hbn).2)) (x_room (by omega)) ⟨Nat.zero_le _, Nat.zero_le _⟩ hl.1 (Nat.le_of_ble_eq_true rfl) dX8_invoice_107 (fun r8 u7 H locs hp h => ?_)
        obtain ⟨er8, eu7⟩ := hp; rw [eu7] at h; clear eu7 u7; refine x_topi er8 ?_; clear er8 r8
        refine x_topi (y := msS st b (ln b)) (by rw [eu5]; exact msS_si ..) ?_
        exact x_iret C hr hlocks h (Or.inr ⟨by simp only [kbInv, if_true, if_false, Bool.not_true, Bool.not_false, Bool.and_true, Bool.true_and, Bool.and_false, Bool.false_and, Bool.or_true, Bool.true_or, Bool.or_false, Bool.false_or, Bool.false_eq_true, eq_self, decide_true, decide_false, c6, c20], b, hbn, rfl, by rw [mivS, if_neg (by rw [g41_3]; decide), if_neg (by rw [g41_3]; decide), if_neg (by rw [g41_3]; decide), if_pos g41_3], eu5⟩) dX8_invoice_110
      by_cases g41_4 : w9 = nI 4
      · refine x_topi g41_4 ?_
        refine lv_tableIn (tgt := 111) (off := 70) hx hb dX8_invoice_41 (by decide) (by decide) (by decide) (by decide) ?_
        refine lv_aload_n hx hb dX8_invoice_111 rfl (lv_at hl 0 rfl) ?_
        refine gf_X8_92 C h (hM 30 (by decide)) rfl (k2 := 68) rfl dX8_invoice_112 ?_
        refine lv_iload_n hx hb dX8_invoice_115 rfl (lv_at hl 1 rfl) ?_
        obtain ⟨b, hbn, eb⟩ := inR_n c6 (by omega)
        refine x_ald C h (hM 68 (by decide)) (n := 30) rfl b (by omega) (by decide) eb dX8_invoice_116 ?_
        exact x_iret C hr hlocks h (Or.inr ⟨by simp only [kbInv, if_true, if_false, Bool.not_true, Bool.not_false, Bool.and_true, Bool.true_and, Bool.and_false, Bool.false_and, Bool.or_true, Bool.true_or, Bool.or_false, Bool.false_or, Bool.false_eq_true, eq_self, decide_true, decide_false, c6, c20], b, hbn, eb, by rw [mivS, if_neg (by rw [g41_4]; decide), if_neg (by rw [g41_4]; decide), if_neg (by rw [g41_4]; decide), if_neg (by rw [g41_4]; decide), if_pos g41_4, eu5]; rfl, eu5⟩) dX8_invoice_117
      by_cases g41_5 : w9 = nI 5
      · refine x_topi g41_5 ?_
        refine lv_tableIn (tgt := 118) (off := 77) hx hb dX8_invoice_41 (by decide) (by decide) (by decide) (by decide) ?_
        refine lv_aload_n hx hb dX8_invoice_118 rfl (lv_at hl 0 rfl) ?_
        refine lv_iload_n hx hb dX8_invoice_119 rfl (lv_at hl 1 rfl) ?_
        obtain ⟨b, hbn, eb⟩ := inR_n c6 (by omega)
        subst eb
        refine cl_X8_228 C h (hM 30 (by decide)) rfl (c_X8_taxed l D cy ad Ls u5 hM b nn (by omega) hn40 (by rw [eu5]; exact hn41)) (x_room (by omega)) ⟨Nat.zero_le _, Nat.zero_le _⟩ hl.1 (Nat.le_of_ble_eq_true rfl) dX8_invoice_120 (fun r10 u9 H locs hp h => ?_)
        obtain ⟨er10, eu9⟩ := hp; rw [eu9] at h; clear eu9 u9; refine x_topi er10 ?_; clear er10 r10
        refine x_topi (y := mxS st b nn) (by rw [eu5]; exact mxS_si ..) ?_
        exact x_iret C hr hlocks h (Or.inr ⟨by simp only [kbInv, if_true, if_false, Bool.not_true, Bool.not_false, Bool.and_true, Bool.true_and, Bool.and_false, Bool.false_and, Bool.or_true, Bool.true_or, Bool.or_false, Bool.false_or, Bool.false_eq_true, eq_self, decide_true, decide_false, c6, c20], b, hbn, rfl, by rw [mivS, if_neg (by rw [g41_5]; decide), if_neg (by rw [g41_5]; decide), if_neg (by rw [g41_5]; decide), if_neg (by rw [g41_5]; decide), if_neg (by rw [g41_5]; decide), if_pos g41_5], eu5⟩) dX8_invoice_123
      by_cases g41_6 : w9 = nI 6
      · refine x_topi g41_6 ?_
        refine lv_tableIn (tgt := 124) (off := 83) hx hb dX8_invoice_41 (by decide) (by decide) (by decide) (by decide) ?_
        refine lv_aload_n hx hb dX8_invoice_124 rfl (lv_at hl 0 rfl) ?_
        refine gf_X8_74 C h (hM 30 (by decide)) rfl (k2 := 62) rfl dX8_invoice_125 ?_
        refine lv_iload_n hx hb dX8_invoice_128 rfl (lv_at hl 1 rfl) ?_
        obtain ⟨b, hbn, eb⟩ := inR_n c6 (by omega)
        refine x_ald C h (hM 62 (by decide)) (n := 30) rfl b (by omega) (by decide) eb dX8_invoice_129 ?_
        exact x_iret C hr hlocks h (Or.inr ⟨by simp only [kbInv, if_true, if_false, Bool.not_true, Bool.not_false, Bool.and_true, Bool.true_and, Bool.and_false, Bool.false_and, Bool.or_true, Bool.true_or, Bool.or_false, Bool.false_or, Bool.false_eq_true, eq_self, decide_true, decide_false, c6, c20], b, hbn, eb, by rw [mivS, if_neg (by rw [g41_6]; decide), if_neg (by rw [g41_6]; decide), if_neg (by rw [g41_6]; decide), if_neg (by rw [g41_6]; decide), if_neg (by rw [g41_6]; decide), if_neg (by rw [g41_6]; decide), if_pos g41_6, eu5]; rfl, eu5⟩) dX8_invoice_130
      refine x_tsw (tgt := 131) hx hb dX8_invoice_41 (by decide) (by decide) ?_ ?_
      · intro i hi; rcases (show i = 0 ∨ i = 1 ∨ i = 2 ∨ i = 3 ∨ i = 4 ∨ i = 5 ∨ i = 6 by have hi9 : i < 7 := hi; omega) with rfl | rfl | rfl | rfl | rfl | rfl | rfl
        all_goals first | (intro hne; exact absurd rfl hne) | (intro _ q9; first | exact g41_0 (x_toInt q9 (by decide)) | exact g41_1 (x_toInt q9 (by decide)) | exact g41_2 (x_toInt q9 (by decide)) | exact g41_3 (x_toInt q9 (by decide)) | exact g41_4 (x_toInt q9 (by decide)) | exact g41_5 (x_toInt q9 (by decide)) | exact g41_6 (x_toInt q9 (by decide)))
      refine lv_aload_n hx hb dX8_invoice_131 rfl (lv_at hl 0 rfl) ?_
      refine gf_X8_77 C h (hM 30 (by decide)) rfl (k2 := 63) rfl dX8_invoice_132 ?_
      refine lv_iload_n hx hb dX8_invoice_135 rfl (lv_at hl 1 rfl) ?_
      obtain ⟨b, hbn, eb⟩ := inR_n c6 (by omega)
      refine x_ald C h (hM 63 (by decide)) (n := 30) rfl b (by omega) (by decide) eb dX8_invoice_136 ?_
      exact x_iret C hr hlocks h (Or.inr ⟨by simp only [kbInv, if_true, if_false, Bool.not_true, Bool.not_false, Bool.and_true, Bool.true_and, Bool.and_false, Bool.false_and, Bool.or_true, Bool.true_or, Bool.or_false, Bool.false_or, Bool.false_eq_true, eq_self, decide_true, decide_false, c6, c20], b, hbn, eb, by rw [mivS, if_neg g41_0, if_neg g41_1, if_neg g41_2, if_neg g41_3, if_neg g41_4, if_neg g41_5, if_neg g41_6, eu5]; rfl, eu5⟩) dX8_invoice_137
    · refine lv_iconst (v := nI 2) hx hb dX8_invoice_23 (by decide) ?_
      refine lv_goto (tgt := 28) hx hb dX8_invoice_24 (by decide) ?_
      refine pf_X8_110 C h (hM 30 (by decide)) rfl dX8_invoice_28 (fun H locs u11 eu11 h => ?_)
      have e12 : gi u11 0 30 = nI 2 := by rw [eu11, gi_si, if_pos ⟨rfl, rfl⟩]
      refine lv_aload_n hx hb dX8_invoice_31 rfl (lv_at hl 0 rfl) ?_
      refine gf_X8_110 C h (hM 30 (by decide)) rfl dX8_invoice_32 ?_
      refine x_topi e12 ?_
      refine x_ifN_le (tgt := 40) hx hb dX8_invoice_35 (by decide) (by decide) (fun z9 => absurd z9 (by decide)) (fun _ => ?_)
      refine lv_iconst (v := nI 0) hx hb dX8_invoice_38 (by decide) ?_
      exact x_iret C hr hlocks h (Or.inl ⟨by rw [show kbInv nB x w9 = 2 from by simp only [kbInv, if_true, if_false, Bool.not_true, Bool.not_false, Bool.and_true, Bool.true_and, Bool.and_false, Bool.false_and, Bool.or_true, Bool.true_or, Bool.or_false, Bool.false_or, Bool.false_eq_true, eq_self, decide_true, decide_false, c6, c20]]; decide, rfl, by rw [eu11, show kbInv nB x w9 = 2 from by simp only [kbInv, if_true, if_false, Bool.not_true, Bool.not_false, Bool.and_true, Bool.true_and, Bool.and_false, Bool.false_and, Bool.or_true, Bool.true_or, Bool.or_false, Bool.false_or, Bool.false_eq_true, eq_self, decide_true, decide_false, c6, c20]]⟩) dX8_invoice_39
  · refine lv_iconst (v := nI 1) hx hb dX8_invoice_9 (by decide) ?_
    refine lv_goto (tgt := 28) hx hb dX8_invoice_10 (by decide) ?_
    refine pf_X8_110 C h (hM 30 (by decide)) rfl dX8_invoice_28 (fun H locs u13 eu13 h => ?_)
    have e14 : gi u13 0 30 = nI 1 := by rw [eu13, gi_si, if_pos ⟨rfl, rfl⟩]
    refine lv_aload_n hx hb dX8_invoice_31 rfl (lv_at hl 0 rfl) ?_
    refine gf_X8_110 C h (hM 30 (by decide)) rfl dX8_invoice_32 ?_
    refine x_topi e14 ?_
    refine x_ifN_le (tgt := 40) hx hb dX8_invoice_35 (by decide) (by decide) (fun z9 => absurd z9 (by decide)) (fun _ => ?_)
    refine lv_iconst (v := nI 0) hx hb dX8_invoice_38 (by decide) ?_
    exact x_iret C hr hlocks h (Or.inl ⟨by rw [show kbInv nB x w9 = 1 from by simp only [kbInv, if_true, if_false, Bool.not_true, Bool.not_false, Bool.and_true, Bool.true_and, Bool.and_false, Bool.false_and, Bool.or_true, Bool.true_or, Bool.or_false, Bool.false_or, Bool.false_eq_true, eq_self, decide_true, decide_false, c6]]; decide, rfl, by rw [eu13, show kbInv nB x w9 = 1 from by simp only [kbInv, if_true, if_false, Bool.not_true, Bool.not_false, Bool.and_true, Bool.true_and, Bool.and_false, Bool.false_and, Bool.or_true, Bool.true_or, Bool.or_false, Bool.false_or, Bool.false_eq_true, eq_self, decide_true, decide_false, c6]]⟩) dX8_invoice_39
