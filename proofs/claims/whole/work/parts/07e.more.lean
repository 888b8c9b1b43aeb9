/-! ===== the reference: taxAnew, used, owed, strike ===== -/
def mnN (st : XS) (nt : Nat) (kn : Nat → Nat) (b n : Nat) : Int32 := mtxN (sa st 70 (mlrF st nt b n)) kn b n
def mnS (st : XS) (nt : Nat) (kn : Nat → Nat) (b n : Nat) : XS := sa (sa st 70 (mlrF st nt b n)) 69 (msmF (sa st 70 (mlrF st nt b n)) kn b n)
def kbUsed (nB : Nat) (ln : Nat → Nat) (x y : Int32) : Nat := if inR x (nI 0) (nI nB - nI 1) then (if inR y (nI 0) (nI (ln x.toNatClampNeg) - nI 1) then 0 else 1) else 1
def kbStrike (n : Nat) (x : Int32) : Nat := if inR x (nI 0) (nI n - nI 1) then 0 else 1
/-- what a place owes, by the reference -/
def mowF (st : XS) (nn : Nat) (p : Int32) : Nat → Int32
  | 0 => nI 0
  | b + 1 => mowF st nn p b + (if ga st 62 b = p then mxS st b nn else nI 0)
def mrmS (st : XS) (j i : Nat) : XS := sa (sa (sa st 55 (shF (ga st 55) j i)) 56 (shF (ga st 56) j i)) 57 (shF (ga st 57) j i)
theorem mrmS_1 (st : XS) (j i : Nat) : ga (mrmS st j i) 55 = shF (ga st 55) j i := by unfold mrmS; rw [ga_sa, if_neg (by omega), ga_sa, if_neg (by omega), ga_self]
theorem mrmS_2 (st : XS) (j i : Nat) : ga (mrmS st j i) 56 = shF (ga st 56) j i := by unfold mrmS; rw [ga_sa, if_neg (by omega), ga_self]
theorem mrmS_3 (st : XS) (j i : Nat) : ga (mrmS st j i) 57 = shF (ga st 57) j i := by unfold mrmS; rw [ga_self]
theorem mrmS_0 (st : XS) (j : Nat) : mrmS st j j = st := by unfold mrmS; rw [shF_0, shF_0, shF_0, sa_id, sa_id, sa_id]
theorem mrmS_s (st : XS) {j i : Nat} (h : j ≤ i) (v : XS) (hv : v = mrmS st j i) (u1 u2 u3 : XS) (h1 : u1 = sa v 55 (upd (ga v 55) i (ga v 55 (i + 1)))) (h2 : u2 = sa u1 56 (upd (ga u1 56) i (ga u1 56 (i + 1)))) (h3 : u3 = sa u2 57 (upd (ga u2 57) i (ga u2 57 (i + 1)))) : u3 = mrmS st j (i + 1) := by
  have g1 : ga u1 56 = shF (ga st 56) j i := by rw [h1, ga_sa, if_neg (by omega), hv, mrmS_2]
  have g2 : ga u2 57 = shF (ga st 57) j i := by rw [h2, ga_sa, if_neg (by omega), h1, ga_sa, if_neg (by omega), hv, mrmS_3]
  rw [g2, shF_1 _ h] at h3
  rw [g1, shF_1 _ h] at h2
  rw [hv, mrmS_1, shF_1 _ h] at h1
  subst h1; subst h2; subst h3
  unfold mrmS
  refine XS_ext (fun _ _ => rfl) (fun _ _ => rfl) (fun _ _ => rfl) (fun k => ?_) (fun _ => rfl)
  simp only [ga_sa]
  by_cases k1 : k = 55
  · rw [if_neg (by omega), if_neg (by omega), if_pos k1, if_neg (by omega), if_neg (by omega), if_pos k1]
  · by_cases k2 : k = 56
    · rw [if_neg (by omega), if_pos k2, if_neg (by omega), if_pos k2]
    · by_cases k3 : k = 57
      · rw [if_pos k3, if_pos k3]
      · simp only [if_neg k1, if_neg k2, if_neg k3]

set_option maxHeartbeats 4000000 in
set_option maxRecDepth 100000 in
theorem c_X8_taxAnew (l : Launch) (D : va_G) (cy : Nat → ClassId) (ad : Nat → Nat) (Ls : List Nat) (st : XS) (hM : ∀ k, k ∈ LsM → k ∈ Ls) (nt : Nat) (hnt60 : nt ≤ 60) (hn17 : gi st 17 30 = nI nt) (nB : Nat) (hnB : nB ≤ 30) (hn28 : gi st 28 30 = nI nB) (ln : Nat → Nat) (hmany : ∀ b, b < nB → ln b ≤ 6 ∧ ga st 61 b = nI (ln b)) (kn : Nat → Nat → Nat) (hkn : ∀ b, b < nB → ∀ k, k < ln b → kn b k < 4 ∧ ga st 64 (6 * b + k) = nI (kn b k)) (x : Int32) : xMi l yX8_taxAnew cX8_taxAnew 2 (some .int) 3 D cy ad Ls st [.ref (ad 30), .int x] (fun r u => (¬ kbBill nB x = 0 ∧ r = nI 0 ∧ u = si st 0 30 (nI (kbBill nB x))) ∨ (kbBill nB x = 0 ∧ ∃ b : Nat, b < nB ∧ x = nI b ∧ r = mnN (si st 0 30 (nI 0)) nt (kn b) b (ln b) ∧ u = mnS (si st 0 30 (nI 0)) nt (kn b) b (ln b))) := by
  intro sz
  refine x_of sz (by decide +kernel) (Nat.le_of_ble_eq_true rfl) ?_
  intro p e s m args below meth c ls hx hb hr hlocks C hsz h hl
  have hl : lv_has ls 2 [(0, .ref (ad 30)), (1, .int x)] := hl
  obtain ⟨H, eH⟩ : ∃ z, z = s.heap := ⟨_, rfl⟩
  obtain ⟨locs, eL⟩ : ∃ z : List Loc, z = [] := ⟨_, rfl⟩
  rw [← eH, ← eL] at h
  rw [← eH, ← eL]
  clear eH eL
  refine lv_aload_n hx hb dX8_taxAnew_0 rfl (lv_at hl 0 rfl) ?_
  refine lv_aload_n hx hb dX8_taxAnew_1 rfl (lv_at hl 0 rfl) ?_
  refine lv_iload_n hx hb dX8_taxAnew_2 rfl (lv_at hl 1 rfl) ?_
  refine cl_X8_222 C h (hM 30 (by decide)) rfl (c_X8_isInvoice l D cy ad Ls st hM nB hn28 x) (x_room (by omega)) ⟨Nat.zero_le _, Nat.zero_le _⟩ hl.1 (Nat.le_of_ble_eq_true rfl) dX8_taxAnew_3 (fun r2 u1 H locs hp h => ?_)
  obtain ⟨er2, eu1⟩ := hp; rw [eu1] at h; clear eu1 u1; refine x_topi er2 ?_; clear er2 r2
  refine x_ifb_eq (tgt := 13) hx hb dX8_taxAnew_6 (by decide) (fun c6 => ?_) (fun c6 => ?_)
  · refine lv_iconst (v := nI 1) hx hb dX8_taxAnew_13 (by decide) ?_
    refine pf_X8_110 C h (hM 30 (by decide)) rfl dX8_taxAnew_14 (fun H locs u3 eu3 h => ?_)
    have e4 : gi u3 0 30 = nI 1 := by rw [eu3, gi_si, if_pos ⟨rfl, rfl⟩]
    refine lv_aload_n hx hb dX8_taxAnew_17 rfl (lv_at hl 0 rfl) ?_
    refine gf_X8_110 C h (hM 30 (by decide)) rfl dX8_taxAnew_18 ?_
    refine x_topi e4 ?_
    refine x_ifN_le (tgt := 28) hx hb dX8_taxAnew_21 (by decide) (by decide) (fun z9 => absurd z9 (by decide)) (fun _ => ?_)
    refine lv_iconst (v := nI 0) hx hb dX8_taxAnew_24 (by decide) ?_
    refine lv_goto (tgt := 33) hx hb dX8_taxAnew_25 (by decide) ?_
    exact x_iret C hr hlocks h (Or.inl ⟨by rw [show kbBill nB x = 1 from by simp only [kbBill, if_true, if_false, Bool.not_true, Bool.not_false, Bool.and_true, Bool.true_and, Bool.and_false, Bool.false_and, Bool.or_true, Bool.true_or, Bool.or_false, Bool.false_or, Bool.false_eq_true, eq_self, decide_true, decide_false, c6]]; decide, rfl, by rw [eu3, show kbBill nB x = 1 from by simp only [kbBill, if_true, if_false, Bool.not_true, Bool.not_false, Bool.and_true, Bool.true_and, Bool.and_false, Bool.false_and, Bool.or_true, Bool.true_or, Bool.or_false, Bool.false_or, Bool.false_eq_true, eq_self, decide_true, decide_false, c6]]⟩) dX8_taxAnew_33
  · refine lv_iconst (v := nI 0) hx hb dX8_taxAnew_9 (by decide) ?_
    refine lv_goto (tgt := 14) hx hb dX8_taxAnew_10 (by decide) ?_
    refine pf_X8_110 C h (hM 30 (by decide)) rfl dX8_taxAnew_14 (fun H locs u5 eu5 h => ?_)
    have e6 : gi u5 0 30 = nI 0 := by rw [eu5, gi_si, if_pos ⟨rfl, rfl⟩]
    refine lv_aload_n hx hb dX8_taxAnew_17 rfl (lv_at hl 0 rfl) ?_
    refine gf_X8_110 C h (hM 30 (by decide)) rfl dX8_taxAnew_18 ?_
    refine x_topi e6 ?_
    refine x_ifN_le (tgt := 28) hx hb dX8_taxAnew_21 (by decide) (by decide) (fun _ => ?_) (fun z9 => absurd z9 (by decide))
    refine lv_aload_n hx hb dX8_taxAnew_28 rfl (lv_at hl 0 rfl) ?_
    refine lv_iload_n hx hb dX8_taxAnew_29 rfl (lv_at hl 1 rfl) ?_
    obtain ⟨b, hbn, eb⟩ := inR_n c6 (by omega)
    subst eb
    refine cl_X8_231 C h (hM 30 (by decide)) rfl (c_X8_taxNow l D cy ad Ls u5 hM nt hnt60 (by rw [eu5]; exact hn17) b (ln b) (by omega) (hmany b hbn).1 (by rw [eu5]; exact (hmany b hbn).2) (kn b) (by rw [eu5]; exact hkn b hbn)) (x_room (by omega)) ⟨Nat.zero_le _, Nat.zero_le _⟩ hl.1 (Nat.le_of_ble_eq_true rfl) dX8_taxAnew_30 (fun r8 u7 H locs hp h => ?_)
    obtain ⟨er, eu7⟩ := hp; rw [eu5] at er eu7; refine x_topi (y := mnN (si st 0 30 (nI 0)) nt (kn b) b (ln b)) er ?_; clear er r8
    exact x_iret C hr hlocks h (Or.inr ⟨by simp only [kbBill, if_true, if_false, Bool.not_true, Bool.not_false, Bool.and_true, Bool.true_and, Bool.and_false, Bool.false_and, Bool.or_true, Bool.true_or, Bool.or_false, Bool.false_or, Bool.false_eq_true, eq_self, decide_true, decide_false, c6], b, hbn, rfl, rfl, eu7⟩) dX8_taxAnew_33

set_option maxHeartbeats 4000000 in
set_option maxRecDepth 100000 in
theorem c_X8_used (l : Launch) (D : va_G) (cy : Nat → ClassId) (ad : Nat → Nat) (Ls : List Nat) (st : XS) (hM : ∀ k, k ∈ LsM → k ∈ Ls) (nB : Nat) (hnB : nB ≤ 30) (hn28 : gi st 28 30 = nI nB) (ln : Nat → Nat) (hmany : ∀ b, b < nB → ln b ≤ 6 ∧ ga st 61 b = nI (ln b)) (x y9 : Int32) : xMi l yX8_used cX8_used 3 (some .int) 2 D cy ad Ls st [.ref (ad 30), .int x, .int y9] (fun r u => (¬ kbUsed nB ln x y9 = 0 ∧ r = nI 0 ∧ u = si st 0 30 (nI (kbUsed nB ln x y9))) ∨ (kbUsed nB ln x y9 = 0 ∧ ∃ b j : Nat, b < nB ∧ x = nI b ∧ j < ln b ∧ y9 = nI j ∧ r = ga st 67 (6 * b + j) ∧ u = si st 0 30 (nI 0))) := by
  intro sz
  refine x_of sz (by decide +kernel) (Nat.le_of_ble_eq_true rfl) ?_
  intro p e s m args below meth c ls hx hb hr hlocks C hsz h hl
  have hl : lv_has ls 3 [(0, .ref (ad 30)), (1, .int x), (2, .int y9)] := hl
  obtain ⟨H, eH⟩ : ∃ z, z = s.heap := ⟨_, rfl⟩
  obtain ⟨locs, eL⟩ : ∃ z : List Loc, z = [] := ⟨_, rfl⟩
  rw [← eH, ← eL] at h
  rw [← eH, ← eL]
  clear eH eL
  refine lv_aload_n hx hb dX8_used_0 rfl (lv_at hl 0 rfl) ?_
  refine lv_aload_n hx hb dX8_used_1 rfl (lv_at hl 0 rfl) ?_
  refine lv_iload_n hx hb dX8_used_2 rfl (lv_at hl 1 rfl) ?_
  refine cl_X8_222 C h (hM 30 (by decide)) rfl (c_X8_isInvoice l D cy ad Ls st hM nB hn28 x) (x_room (by omega)) ⟨Nat.zero_le _, Nat.zero_le _⟩ hl.1 (Nat.le_of_ble_eq_true rfl) dX8_used_3 (fun r2 u1 H locs hp h => ?_)
  obtain ⟨er2, eu1⟩ := hp; rw [eu1] at h; clear eu1 u1; refine x_topi er2 ?_; clear er2 r2
  refine x_ifb_eq (tgt := 29) hx hb dX8_used_6 (by decide) (fun c6 => ?_) (fun c6 => ?_)
  · refine lv_iconst (v := nI 1) hx hb dX8_used_29 (by decide) ?_
    refine pf_X8_110 C h (hM 30 (by decide)) rfl dX8_used_30 (fun H locs u3 eu3 h => ?_)
    have e4 : gi u3 0 30 = nI 1 := by rw [eu3, gi_si, if_pos ⟨rfl, rfl⟩]
    refine lv_aload_n hx hb dX8_used_33 rfl (lv_at hl 0 rfl) ?_
    refine gf_X8_110 C h (hM 30 (by decide)) rfl dX8_used_34 ?_
    refine x_topi e4 ?_
    refine x_ifN_le (tgt := 44) hx hb dX8_used_37 (by decide) (by decide) (fun z9 => absurd z9 (by decide)) (fun _ => ?_)
    refine lv_iconst (v := nI 0) hx hb dX8_used_40 (by decide) ?_
    refine lv_goto (tgt := 55) hx hb dX8_used_41 (by decide) ?_
    exact x_iret C hr hlocks h (Or.inl ⟨by rw [show kbUsed nB ln (x) y9 = 1 from by simp only [kbUsed, if_true, if_false, Bool.not_true, Bool.not_false, Bool.and_true, Bool.true_and, Bool.and_false, Bool.false_and, Bool.or_true, Bool.true_or, Bool.or_false, Bool.false_or, Bool.false_eq_true, eq_self, decide_true, decide_false, c6]]; decide, rfl, by rw [eu3, show kbUsed nB ln (x) y9 = 1 from by simp only [kbUsed, if_true, if_false, Bool.not_true, Bool.not_false, Bool.and_true, Bool.true_and, Bool.and_false, Bool.false_and, Bool.or_true, Bool.true_or, Bool.or_false, Bool.false_or, Bool.false_eq_true, eq_self, decide_true, decide_false, c6]]⟩) dX8_used_55
  · refine lv_iload_n hx hb dX8_used_9 rfl (lv_at hl 2 rfl) ?_
    refine lv_iconst (v := nI 0) hx hb dX8_used_10 (by decide) ?_
    refine lv_aload_n hx hb dX8_used_11 rfl (lv_at hl 0 rfl) ?_
    refine gf_X8_71 C h (hM 30 (by decide)) rfl (k2 := 61) rfl dX8_used_12 ?_
    refine lv_iload_n hx hb dX8_used_15 rfl (lv_at hl 1 rfl) ?_
    obtain ⟨b, hbn, eb⟩ := inR_n c6 (by omega)
    subst eb
    refine x_ald C h (hM 61 (by decide)) (n := 30) rfl b (by omega) (by decide) rfl dX8_used_16 ?_
    refine x_topi (y := nI (ln b)) (hmany b hbn).2 ?_
    refine lv_iconst (v := nI 1) hx hb dX8_used_17 (by decide) ?_
    refine lv_isub hx hb dX8_used_18 ?_
    refine cl_X8_120 C h (c_X8_isIn l D cy ad Ls st y9 (nI 0) ((nI (ln b)) - (nI 1))) (x_room (by omega)) ⟨Nat.zero_le _, Nat.zero_le _⟩ hl.1 (Nat.le_of_ble_eq_true rfl) dX8_used_19 (fun r6 u5 H locs hp h => ?_)
    obtain ⟨er6, eu5⟩ := hp; rw [eu5] at h; clear eu5 u5; refine x_topi er6 ?_; clear er6 r6
    refine x_ifb_eq (tgt := 29) hx hb dX8_used_22 (by decide) (fun c22 => ?_) (fun c22 => ?_)
    · refine lv_iconst (v := nI 1) hx hb dX8_used_29 (by decide) ?_
      refine pf_X8_110 C h (hM 30 (by decide)) rfl dX8_used_30 (fun H locs u7 eu7 h => ?_)
      have e8 : gi u7 0 30 = nI 1 := by rw [eu7, gi_si, if_pos ⟨rfl, rfl⟩]
      refine lv_aload_n hx hb dX8_used_33 rfl (lv_at hl 0 rfl) ?_
      refine gf_X8_110 C h (hM 30 (by decide)) rfl dX8_used_34 ?_
      refine x_topi e8 ?_
      refine x_ifN_le (tgt := 44) hx hb dX8_used_37 (by decide) (by decide) (fun z9 => absurd z9 (by decide)) (fun _ => ?_)
      refine lv_iconst (v := nI 0) hx hb dX8_used_40 (by decide) ?_
      refine lv_goto (tgt := 55) hx hb dX8_used_41 (by decide) ?_
      exact x_iret C hr hlocks h (Or.inl ⟨by rw [show kbUsed nB ln (nI b) y9 = 1 from by simp only [kbUsed, if_true, if_false, Bool.not_true, Bool.not_false, Bool.and_true, Bool.true_and, Bool.and_false, Bool.false_and, Bool.or_true, Bool.true_or, Bool.or_false, Bool.false_or, Bool.false_eq_true, eq_self, decide_true, decide_false, nI_clamp (show b < 2 ^ 31 by omega), c6, c22]]; decide, rfl, by rw [eu7, show kbUsed nB ln (nI b) y9 = 1 from by simp only [kbUsed, if_true, if_false, Bool.not_true, Bool.not_false, Bool.and_true, Bool.true_and, Bool.and_false, Bool.false_and, Bool.or_true, Bool.true_or, Bool.or_false, Bool.false_or, Bool.false_eq_true, eq_self, decide_true, decide_false, nI_clamp (show b < 2 ^ 31 by omega), c6, c22]]⟩) dX8_used_55
    · refine lv_iconst (v := nI 0) hx hb dX8_used_25 (by decide) ?_
      refine lv_goto (tgt := 30) hx hb dX8_used_26 (by decide) ?_
      refine pf_X8_110 C h (hM 30 (by decide)) rfl dX8_used_30 (fun H locs u9 eu9 h => ?_)
      have e10 : gi u9 0 30 = nI 0 := by rw [eu9, gi_si, if_pos ⟨rfl, rfl⟩]
      refine lv_aload_n hx hb dX8_used_33 rfl (lv_at hl 0 rfl) ?_
      refine gf_X8_110 C h (hM 30 (by decide)) rfl dX8_used_34 ?_
      refine x_topi e10 ?_
      refine x_ifN_le (tgt := 44) hx hb dX8_used_37 (by decide) (by decide) (fun _ => ?_) (fun z9 => absurd z9 (by decide))
      obtain ⟨j, hj, ej⟩ := inR_n c22 (by have := (hmany b hbn).1; omega)
      subst ej
      refine lv_aload_n hx hb dX8_used_44 rfl (lv_at hl 0 rfl) ?_
      refine gf_X8_89 C h (hM 30 (by decide)) rfl (k2 := 67) rfl dX8_used_45 ?_
      refine lv_bipush (v := nI 6) hx hb dX8_used_48 (by decide) ?_
      refine lv_iload_n hx hb dX8_used_50 rfl (lv_at hl 1 rfl) ?_
      refine x_mulN hx hb dX8_used_51 ?_
      refine lv_iload_n hx hb dX8_used_52 rfl (lv_at hl 2 rfl) ?_
      refine x_addN hx hb dX8_used_53 ?_
      refine x_ald C h (hM 67 (by decide)) (n := 180) rfl (6 * b + j) (by have := (hmany b hbn).1; omega) (by decide) rfl dX8_used_54 ?_
      exact x_iret C hr hlocks h (Or.inr ⟨by simp only [kbUsed, if_true, if_false, Bool.not_true, Bool.not_false, Bool.and_true, Bool.true_and, Bool.and_false, Bool.false_and, Bool.or_true, Bool.true_or, Bool.or_false, Bool.false_or, Bool.false_eq_true, eq_self, decide_true, decide_false, nI_clamp (show b < 2 ^ 31 by omega), c6, c22], b, j, hbn, rfl, hj, rfl, by rw [eu9]; rfl, eu9⟩) dX8_used_55

set_option maxHeartbeats 4000000 in
set_option maxRecDepth 100000 in
theorem c_X8_owed (l : Launch) (D : va_G) (cy : Nat → ClassId) (ad : Nat → Nat) (Ls : List Nat) (st : XS) (hM : ∀ k, k ∈ LsM → k ∈ Ls) (nB : Nat) (hnB : nB ≤ 30) (hn28 : gi st 28 30 = nI nB) (nn : Nat) (hn40 : nn ≤ 40) (hn41 : gi st 41 30 = nI nn) (p9 : Int32) : xMi l yX8_owed cX8_owed 4 (some .int) 2 D cy ad Ls st [.ref (ad 30), .int p9] (fun r u => (¬ kbPlace p9 = 0 ∧ r = nI 0 ∧ u = si st 0 30 (nI (kbPlace p9))) ∨ (kbPlace p9 = 0 ∧ r = mowF st nn p9 nB ∧ u = si st 0 30 (nI 0))) := by
  intro sz
  refine x_of sz (by decide +kernel) (Nat.le_of_ble_eq_true rfl) ?_
  intro p e s m args below meth c ls hx hb hr hlocks C hsz h hl
  have hl : lv_has ls 4 [(0, .ref (ad 30)), (1, .int p9)] := hl
  obtain ⟨H, eH⟩ : ∃ z, z = s.heap := ⟨_, rfl⟩
  obtain ⟨locs, eL⟩ : ∃ z : List Loc, z = [] := ⟨_, rfl⟩
  rw [← eH, ← eL] at h
  rw [← eH, ← eL]
  clear eH eL
  refine lv_aload_n hx hb dX8_owed_0 rfl (lv_at hl 0 rfl) ?_
  refine lv_iload_n hx hb dX8_owed_1 rfl (lv_at hl 1 rfl) ?_
  refine cl_X8_190 C h (c_X8_isFour l D cy ad Ls st p9) (x_room (by omega)) ⟨Nat.zero_le _, Nat.zero_le _⟩ hl.1 (Nat.le_of_ble_eq_true rfl) dX8_owed_2 (fun r2 u1 H locs hp h => ?_)
  obtain ⟨er2, eu1⟩ := hp; rw [eu1] at h; clear eu1 u1; refine x_topi er2 ?_; clear er2 r2
  refine x_ifb_eq (tgt := 12) hx hb dX8_owed_5 (by decide) (fun c5 => ?_) (fun c5 => ?_)
  · refine lv_iconst (v := nI 1) hx hb dX8_owed_12 (by decide) ?_
    refine pf_X8_110 C h (hM 30 (by decide)) rfl dX8_owed_13 (fun H locs u3 eu3 h => ?_)
    have e4 : gi u3 28 30 = nI nB := by rw [eu3, gi_si, if_neg (by omega)]; exact hn28
    have e5 : gi u3 0 30 = nI 1 := by rw [eu3, gi_si, if_pos ⟨rfl, rfl⟩]
    refine lv_iconst (v := nI 0) hx hb dX8_owed_16 (by decide) ?_
    refine lv_istore_n (lv' := [(2, .int (nI 0)), (0, .ref (ad 30)), (1, .int p9)]) hx hb dX8_owed_17 rfl hl (by decide) rfl (fun ls hl => ?_)
    refine lv_iconst (v := nI 0) hx hb dX8_owed_18 (by decide) ?_
    refine lv_istore_n (lv' := [(3, .int (nI 0)), (2, .int (nI 0)), (0, .ref (ad 30)), (1, .int p9)]) hx hb dX8_owed_19 rfl hl (by decide) rfl (fun ls hl => ?_)
    refine lv_iload_n hx hb dX8_owed_20 rfl (lv_at hl 0 rfl) ?_
    refine lv_aload_n hx hb dX8_owed_21 rfl (lv_at hl 2 rfl) ?_
    refine gf_X8_210 C h (hM 30 (by decide)) rfl dX8_owed_22 ?_
    refine x_topi e4 ?_
    refine x_icmpN_ge (tgt := 63) hx hb dX8_owed_25 (by decide) (by omega) (by omega) (fun c25 => ?_) (fun c25 => ?_)
    · refine lv_iload_n hx hb dX8_owed_63 rfl (lv_at hl 1 rfl) ?_
      exact x_iret C hr hlocks h (Or.inl ⟨by rw [show kbPlace p9 = 1 from by simp only [kbPlace, if_true, if_false, Bool.not_true, Bool.not_false, Bool.and_true, Bool.true_and, Bool.and_false, Bool.false_and, Bool.or_true, Bool.true_or, Bool.or_false, Bool.false_or, Bool.false_eq_true, eq_self, decide_true, decide_false, c5]]; decide, rfl, by rw [eu3, show kbPlace p9 = 1 from by simp only [kbPlace, if_true, if_false, Bool.not_true, Bool.not_false, Bool.and_true, Bool.true_and, Bool.and_false, Bool.false_and, Bool.or_true, Bool.true_or, Bool.or_false, Bool.false_or, Bool.false_eq_true, eq_self, decide_true, decide_false, c5]]⟩) dX8_owed_64
    · refine lv_aload_n hx hb dX8_owed_28 rfl (lv_at hl 2 rfl) ?_
      refine gf_X8_110 C h (hM 30 (by decide)) rfl dX8_owed_29 ?_
      refine x_topi e5 ?_
      refine x_ifN_ne (tgt := 63) hx hb dX8_owed_32 (by decide) (by decide) (fun _ => ?_) (fun z9 => absurd z9 (by decide))
      refine lv_iload_n hx hb dX8_owed_63 rfl (lv_at hl 1 rfl) ?_
      exact x_iret C hr hlocks h (Or.inl ⟨by rw [show kbPlace p9 = 1 from by simp only [kbPlace, if_true, if_false, Bool.not_true, Bool.not_false, Bool.and_true, Bool.true_and, Bool.and_false, Bool.false_and, Bool.or_true, Bool.true_or, Bool.or_false, Bool.false_or, Bool.false_eq_true, eq_self, decide_true, decide_false, c5]]; decide, rfl, by rw [eu3, show kbPlace p9 = 1 from by simp only [kbPlace, if_true, if_false, Bool.not_true, Bool.not_false, Bool.and_true, Bool.true_and, Bool.and_false, Bool.false_and, Bool.or_true, Bool.true_or, Bool.or_false, Bool.false_or, Bool.false_eq_true, eq_self, decide_true, decide_false, c5]]⟩) dX8_owed_64
  · refine lv_iconst (v := nI 0) hx hb dX8_owed_8 (by decide) ?_
    refine lv_goto (tgt := 13) hx hb dX8_owed_9 (by decide) ?_
    refine pf_X8_110 C h (hM 30 (by decide)) rfl dX8_owed_13 (fun H locs u6 eu6 h => ?_)
    have e7 : gi u6 28 30 = nI nB := by rw [eu6, gi_si, if_neg (by omega)]; exact hn28
    have e8 : gi u6 0 30 = nI 0 := by rw [eu6, gi_si, if_pos ⟨rfl, rfl⟩]
    refine lv_iconst (v := nI 0) hx hb dX8_owed_16 (by decide) ?_
    refine lv_istore_n (lv' := [(2, .int (nI 0)), (0, .ref (ad 30)), (1, .int p9)]) hx hb dX8_owed_17 rfl hl (by decide) rfl (fun ls hl => ?_)
    refine lv_iconst (v := nI 0) hx hb dX8_owed_18 (by decide) ?_
    refine lv_istore_n (lv' := [(3, .int (nI 0)), (2, .int (nI 0)), (0, .ref (ad 30)), (1, .int p9)]) hx hb dX8_owed_19 rfl hl (by decide) rfl (fun ls hl => ?_)
    have L20 : ∀ (N20 : Nat) (v : XS) (b : Nat) (o : Int32) (hv : v = si st 0 30 (nI 0)) (ho : o = mowF st nn p9 b) (hbB : b ≤ nB) (hN : nB - b < N20) (H : Heap) (locs : List Loc) (ls : Array Slot), xH D cy ad Ls (XA ad Ls sz) s v H locs → lv_has ls 4 [(0, .ref (ad 30)), (1, .int p9), (2, .int o), (3, .int (nI b))] → W p l e (xR 2) s m args below meth c H locs 0 0 (MQ below (va_Qi (fun r u => (¬ kbPlace p9 = 0 ∧ r = nI 0 ∧ u = si st 0 30 (nI (kbPlace p9))) ∨ (kbPlace p9 = 0 ∧ r = mowF st nn p9 nB ∧ u = si st 0 30 (nI 0))) (fun u => xPost D cy ad Ls (XA ad Ls sz) u) (XA ad Ls sz)) args s 0 0 (XA ad Ls sz)) (F0 m 20 ls []) := by
      intro N20
      induction N20 with
      | zero => intro v b o hv ho hbB hN; omega
      | succ N20 ih20 =>
        intro v b o hv ho hbB hN H locs ls h hl
        refine lv_iload_n hx hb dX8_owed_20 rfl (lv_at hl 3 rfl) ?_
        refine lv_aload_n hx hb dX8_owed_21 rfl (lv_at hl 0 rfl) ?_
        refine gf_X8_210 C h (hM 30 (by decide)) rfl dX8_owed_22 ?_
        refine x_topi (show gi v 28 30 = nI nB by rw [hv]; exact hn28) ?_
        refine x_icmpN_ge (tgt := 63) hx hb dX8_owed_25 (by decide) (by omega) (by omega) (fun c25 => ?_) (fun c25 => ?_)
        · refine lv_iload_n hx hb dX8_owed_63 rfl (lv_at hl 2 rfl) ?_
          exact x_iret C hr hlocks h (Or.inr ⟨by simp only [kbPlace, if_true, if_false, Bool.not_true, Bool.not_false, Bool.and_true, Bool.true_and, Bool.and_false, Bool.false_and, Bool.or_true, Bool.true_or, Bool.or_false, Bool.false_or, Bool.false_eq_true, eq_self, decide_true, decide_false, c5], by rw [ho, show b = nB by omega], hv⟩) dX8_owed_64
        · refine lv_aload_n hx hb dX8_owed_28 rfl (lv_at hl 0 rfl) ?_
          refine gf_X8_110 C h (hM 30 (by decide)) rfl dX8_owed_29 ?_
          refine x_topi (show gi v 0 30 = nI 0 by rw [hv]; exact (gi_si ..).trans (if_pos ⟨rfl, rfl⟩)) ?_
          refine x_ifN_ne (tgt := 63) hx hb dX8_owed_32 (by decide) (by decide) (fun z9 => absurd z9 (by decide)) (fun _ => ?_)
          refine lv_iload_n hx hb dX8_owed_35 rfl (lv_at hl 2 rfl) ?_
          refine lv_aload_n hx hb dX8_owed_36 rfl (lv_at hl 0 rfl) ?_
          refine gf_X8_74 C h (hM 30 (by decide)) rfl (k2 := 62) rfl dX8_owed_37 ?_
          refine lv_iload_n hx hb dX8_owed_40 rfl (lv_at hl 3 rfl) ?_
          refine x_ald C h (hM 62 (by decide)) (n := 30) rfl b (by omega) (by decide) rfl dX8_owed_41 ?_
          refine x_topi (y := ga st 62 b) (by rw [hv]; rfl) ?_
          refine lv_iload_n hx hb dX8_owed_42 rfl (lv_at hl 1 rfl) ?_
          refine lv_icmp_ne (tgt := 54) hx hb dX8_owed_43 (by decide) (fun c43 => ?_) (fun c43 => ?_)
          · refine lv_iconst (v := nI 0) hx hb dX8_owed_54 (by decide) ?_
            refine lv_iadd hx hb dX8_owed_55 ?_
            refine lv_istore_n (lv' := [(2, .int (o + (nI 0))), (0, .ref (ad 30)), (1, .int p9), (3, .int (nI b))]) hx hb dX8_owed_56 rfl hl (by decide) rfl (fun ls hl => ?_)
            refine lv_iinc (v := nI (b + 1)) (lv' := [(3, .int (nI (b + 1))), (2, .int (o + (nI 0))), (0, .ref (ad 30)), (1, .int p9)]) hx hb dX8_owed_57 hl (k := 3) rfl (nI_add _ _) (by decide) rfl (fun ls hl => ?_)
            refine lv_goto (tgt := 20) hx hb dX8_owed_60 (by decide) ?_
            exact ih20 v (b + 1) _ hv (by rw [mowF, if_neg c43, ← ho]) (by omega) (by omega) H locs ls h (lv_sub hl [2, 3, 1, 0] rfl)
          · refine lv_aload_n hx hb dX8_owed_46 rfl (lv_at hl 0 rfl) ?_
            refine lv_iload_n hx hb dX8_owed_47 rfl (lv_at hl 3 rfl) ?_
            refine cl_X8_228 C h (hM 30 (by decide)) rfl (c_X8_taxed l D cy ad Ls v hM b nn (by omega) hn40 (by rw [hv]; exact hn41)) (x_room (by omega)) ⟨Nat.zero_le _, Nat.zero_le _⟩ hl.1 (Nat.le_of_ble_eq_true rfl) dX8_owed_48 (fun r10 u9 H locs hp h => ?_)
            obtain ⟨er10, eu9⟩ := hp; rw [eu9] at h; clear eu9 u9; refine x_topi er10 ?_; clear er10 r10
            refine x_topi (y := mxS st b nn) (by rw [hv]; exact mxS_si ..) ?_
            refine lv_goto (tgt := 55) hx hb dX8_owed_51 (by decide) ?_
            refine lv_iadd hx hb dX8_owed_55 ?_
            refine lv_istore_n (lv' := [(2, .int (o + (mxS st b nn))), (0, .ref (ad 30)), (1, .int p9), (3, .int (nI b))]) hx hb dX8_owed_56 rfl hl (by decide) rfl (fun ls hl => ?_)
            refine lv_iinc (v := nI (b + 1)) (lv' := [(3, .int (nI (b + 1))), (2, .int (o + (mxS st b nn))), (0, .ref (ad 30)), (1, .int p9)]) hx hb dX8_owed_57 hl (k := 3) rfl (nI_add _ _) (by decide) rfl (fun ls hl => ?_)
            refine lv_goto (tgt := 20) hx hb dX8_owed_60 (by decide) ?_
            exact ih20 v (b + 1) _ hv (by rw [mowF, if_pos c43, ← ho]) (by omega) (by omega) H locs ls h (lv_sub hl [2, 3, 1, 0] rfl)
    exact L20 (nB + 1) u6 0 _ eu6 rfl (by omega) (by omega) H locs ls h (lv_sub hl [2, 3, 1, 0] rfl)

set_option maxHeartbeats 4000000 in
set_option maxRecDepth 100000 in
theorem c_X8_strike (l : Launch) (D : va_G) (cy : Nat → ClassId) (ad : Nat → Nat) (Ls : List Nat) (st : XS) (hM : ∀ k, k ∈ LsM → k ∈ Ls) (n : Nat) (hn6 : n ≤ 6) (hn24 : gi st 24 30 = nI n) (x : Int32) : xMi l yX8_strike cX8_strike 3 (some .int) 1 D cy ad Ls st [.ref (ad 30), .int x] (fun r u => (¬ kbStrike n x = 0 ∧ r = nI 0 ∧ u = si st 0 30 (nI (kbStrike n x))) ∨ (kbStrike n x = 0 ∧ ∃ j : Nat, j < n ∧ x = nI j ∧ r = nI (n - 1) ∧ u = si (mrmS (si st 0 30 (nI 0)) j (n - 1)) 24 30 (nI (n - 1)))) := by
  intro sz
  refine x_of sz (by decide +kernel) (Nat.le_of_ble_eq_true rfl) ?_
  intro p e s m args below meth c ls hx hb hr hlocks C hsz h hl
  have hl : lv_has ls 3 [(0, .ref (ad 30)), (1, .int x)] := hl
  obtain ⟨H, eH⟩ : ∃ z, z = s.heap := ⟨_, rfl⟩
  obtain ⟨locs, eL⟩ : ∃ z : List Loc, z = [] := ⟨_, rfl⟩
  rw [← eH, ← eL] at h
  rw [← eH, ← eL]
  clear eH eL
  refine lv_aload_n hx hb dX8_strike_0 rfl (lv_at hl 0 rfl) ?_
  refine lv_iload_n hx hb dX8_strike_1 rfl (lv_at hl 1 rfl) ?_
  refine lv_iconst (v := nI 0) hx hb dX8_strike_2 (by decide) ?_
  refine lv_aload_n hx hb dX8_strike_3 rfl (lv_at hl 0 rfl) ?_
  refine gf_X8_200 C h (hM 30 (by decide)) rfl dX8_strike_4 ?_
  refine x_topi hn24 ?_
  refine lv_iconst (v := nI 1) hx hb dX8_strike_7 (by decide) ?_
  refine lv_isub hx hb dX8_strike_8 ?_
  refine cl_X8_120 C h (c_X8_isIn l D cy ad Ls st x (nI 0) ((nI n) - (nI 1))) (x_room (by omega)) ⟨Nat.zero_le _, Nat.zero_le _⟩ hl.1 (Nat.le_of_ble_eq_true rfl) dX8_strike_9 (fun r2 u1 H locs hp h => ?_)
  obtain ⟨er2, eu1⟩ := hp; rw [eu1] at h; clear eu1 u1; refine x_topi er2 ?_; clear er2 r2
  refine x_ifb_eq (tgt := 19) hx hb dX8_strike_12 (by decide) (fun c12 => ?_) (fun c12 => ?_)
  · refine lv_iconst (v := nI 1) hx hb dX8_strike_19 (by decide) ?_
    refine pf_X8_110 C h (hM 30 (by decide)) rfl dX8_strike_20 (fun H locs u3 eu3 h => ?_)
    have e4 : gi u3 24 30 = nI n := by rw [eu3, gi_si, if_neg (by omega)]; exact hn24
    have e5 : gi u3 0 30 = nI 1 := by rw [eu3, gi_si, if_pos ⟨rfl, rfl⟩]
    refine lv_aload_n hx hb dX8_strike_23 rfl (lv_at hl 0 rfl) ?_
    refine gf_X8_110 C h (hM 30 (by decide)) rfl dX8_strike_24 ?_
    refine x_topi e5 ?_
    refine x_ifN_le (tgt := 32) hx hb dX8_strike_27 (by decide) (by decide) (fun z9 => absurd z9 (by decide)) (fun _ => ?_)
    refine lv_iconst (v := nI 0) hx hb dX8_strike_30 (by decide) ?_
    exact x_iret C hr hlocks h (Or.inl ⟨by rw [show kbStrike n x = 1 from by simp only [kbStrike, if_true, if_false, Bool.not_true, Bool.not_false, Bool.and_true, Bool.true_and, Bool.and_false, Bool.false_and, Bool.or_true, Bool.true_or, Bool.or_false, Bool.false_or, Bool.false_eq_true, eq_self, decide_true, decide_false, c12]]; decide, rfl, by rw [eu3, show kbStrike n x = 1 from by simp only [kbStrike, if_true, if_false, Bool.not_true, Bool.not_false, Bool.and_true, Bool.true_and, Bool.and_false, Bool.false_and, Bool.or_true, Bool.true_or, Bool.or_false, Bool.false_or, Bool.false_eq_true, eq_self, decide_true, decide_false, c12]]⟩) dX8_strike_31
  · refine lv_iconst (v := nI 0) hx hb dX8_strike_15 (by decide) ?_
    refine lv_goto (tgt := 20) hx hb dX8_strike_16 (by decide) ?_
    refine pf_X8_110 C h (hM 30 (by decide)) rfl dX8_strike_20 (fun H locs u6 eu6 h => ?_)
    have e7 : gi u6 24 30 = nI n := by rw [eu6, gi_si, if_neg (by omega)]; exact hn24
    have e8 : gi u6 0 30 = nI 0 := by rw [eu6, gi_si, if_pos ⟨rfl, rfl⟩]
    refine lv_aload_n hx hb dX8_strike_23 rfl (lv_at hl 0 rfl) ?_
    refine gf_X8_110 C h (hM 30 (by decide)) rfl dX8_strike_24 ?_
    refine x_topi e8 ?_
    refine x_ifN_le (tgt := 32) hx hb dX8_strike_27 (by decide) (by decide) (fun _ => ?_) (fun z9 => absurd z9 (by decide))
    obtain ⟨j, hj, ej⟩ := inR_n c12 (by omega)
    rw [ej] at hl
    refine lv_iload_n hx hb dX8_strike_32 rfl (lv_at hl 1 rfl) ?_
    refine lv_istore_n (lv' := [(2, .int (nI j)), (0, .ref (ad 30)), (1, .int (nI j))]) hx hb dX8_strike_33 rfl hl (by decide) rfl (fun ls hl => ?_)
    have L34 : ∀ (N34 : Nat) (v : XS) (i : Nat) (hv : v = mrmS (si st 0 30 (nI 0)) j i) (hji : j ≤ i) (hin : i < n) (hN : n - i < N34) (H : Heap) (locs : List Loc) (ls : Array Slot), xH D cy ad Ls (XA ad Ls sz) s v H locs → lv_has ls 3 [(0, .ref (ad 30)), (2, .int (nI i))] → W p l e (xR 1) s m args below meth c H locs 0 0 (MQ below (va_Qi (fun r u => (¬ kbStrike n x = 0 ∧ r = nI 0 ∧ u = si st 0 30 (nI (kbStrike n x))) ∨ (kbStrike n x = 0 ∧ ∃ j : Nat, j < n ∧ x = nI j ∧ r = nI (n - 1) ∧ u = si (mrmS (si st 0 30 (nI 0)) j (n - 1)) 24 30 (nI (n - 1)))) (fun u => xPost D cy ad Ls (XA ad Ls sz) u) (XA ad Ls sz)) args s 0 0 (XA ad Ls sz)) (F0 m 34 ls []) := by
      intro N34
      induction N34 with
      | zero => intro v i hv hji hin hN; omega
      | succ N34 ih34 =>
        intro v i hv hji hin hN H locs ls h hl
        refine lv_iload_n hx hb dX8_strike_34 rfl (lv_at hl 1 rfl) ?_
        refine lv_aload_n hx hb dX8_strike_35 rfl (lv_at hl 0 rfl) ?_
        refine gf_X8_200 C h (hM 30 (by decide)) rfl dX8_strike_36 ?_
        refine x_topi (show gi v 24 30 = nI n by rw [hv]; exact hn24) ?_
        refine lv_iconst (v := nI 1) hx hb dX8_strike_39 (by decide) ?_
        refine lv_isub hx hb dX8_strike_40 ?_
        refine x_topi (y := nI (n - 1)) (pk_sub (by omega)) ?_
        refine x_icmpN_ge (tgt := 92) hx hb dX8_strike_41 (by decide) (by omega) (by omega) (fun c41 => ?_) (fun c41 => ?_)
        · refine lv_aload_n hx hb dX8_strike_92 rfl (lv_at hl 0 rfl) ?_
          refine lv_dup hx hb dX8_strike_93 rfl ?_
          refine gf_X8_200 C h (hM 30 (by decide)) rfl dX8_strike_94 ?_
          refine x_topi (show gi v 24 30 = nI n by rw [hv]; exact hn24) ?_
          refine lv_iconst (v := nI 1) hx hb dX8_strike_97 (by decide) ?_
          refine lv_isub hx hb dX8_strike_98 ?_
          refine x_topi (y := nI (n - 1)) (pk_sub (by omega)) ?_
          refine pf_X8_200 C h (hM 30 (by decide)) rfl dX8_strike_99 (fun H locs u9 eu9 h => ?_)
          have e11 : gi u9 24 30 = nI (n - 1) := by rw [eu9, gi_si, if_pos ⟨rfl, rfl⟩]
          refine lv_aload_n hx hb dX8_strike_102 rfl (lv_at hl 0 rfl) ?_
          refine gf_X8_200 C h (hM 30 (by decide)) rfl dX8_strike_103 ?_
          refine x_topi e11 ?_
          exact x_iret C hr hlocks h (Or.inr ⟨by simp only [kbStrike, if_true, if_false, Bool.not_true, Bool.not_false, Bool.and_true, Bool.true_and, Bool.and_false, Bool.false_and, Bool.or_true, Bool.true_or, Bool.or_false, Bool.false_or, Bool.false_eq_true, eq_self, decide_true, decide_false, c12], j, hj, ej, rfl, by rw [eu9, hv, show i = n - 1 by omega]⟩) dX8_strike_106
        · refine lv_aload_n hx hb dX8_strike_44 rfl (lv_at hl 0 rfl) ?_
          refine gf_X8_56 C h (hM 30 (by decide)) rfl (k2 := 55) rfl dX8_strike_45 ?_
          refine lv_iload_n hx hb dX8_strike_48 rfl (lv_at hl 1 rfl) ?_
          refine lv_aload_n hx hb dX8_strike_49 rfl (lv_at hl 0 rfl) ?_
          refine gf_X8_56 C h (hM 30 (by decide)) rfl (k2 := 55) rfl dX8_strike_50 ?_
          refine lv_iload_n hx hb dX8_strike_53 rfl (lv_at hl 1 rfl) ?_
          refine lv_iconst (v := nI 1) hx hb dX8_strike_54 (by decide) ?_
          refine x_addN hx hb dX8_strike_55 ?_
          refine x_ald C h (hM 55 (by decide)) (n := 6) rfl (i + 1) (by omega) (by decide) rfl dX8_strike_56 ?_
          refine x_ast C h (hM 55 (by decide)) (n := 6) rfl i (by omega) (by decide) rfl dX8_strike_57 (fun H locs u12 eu12 h => ?_)
          have e13 : gi u12 24 30 = nI n := by rw [eu12]; exact (show gi v 24 30 = nI n by rw [hv]; exact hn24)
          refine lv_aload_n hx hb dX8_strike_58 rfl (lv_at hl 0 rfl) ?_
          refine gf_X8_59 C h (hM 30 (by decide)) rfl (k2 := 56) rfl dX8_strike_59 ?_
          refine lv_iload_n hx hb dX8_strike_62 rfl (lv_at hl 1 rfl) ?_
          refine lv_aload_n hx hb dX8_strike_63 rfl (lv_at hl 0 rfl) ?_
          refine gf_X8_59 C h (hM 30 (by decide)) rfl (k2 := 56) rfl dX8_strike_64 ?_
          refine lv_iload_n hx hb dX8_strike_67 rfl (lv_at hl 1 rfl) ?_
          refine lv_iconst (v := nI 1) hx hb dX8_strike_68 (by decide) ?_
          refine x_addN hx hb dX8_strike_69 ?_
          refine x_ald C h (hM 56 (by decide)) (n := 6) rfl (i + 1) (by omega) (by decide) rfl dX8_strike_70 ?_
          refine x_ast C h (hM 56 (by decide)) (n := 6) rfl i (by omega) (by decide) rfl dX8_strike_71 (fun H locs u14 eu14 h => ?_)
          have e15 : gi u14 24 30 = nI n := by rw [eu14]; exact e13
          refine lv_aload_n hx hb dX8_strike_72 rfl (lv_at hl 0 rfl) ?_
          refine gf_X8_62 C h (hM 30 (by decide)) rfl (k2 := 57) rfl dX8_strike_73 ?_
          refine lv_iload_n hx hb dX8_strike_76 rfl (lv_at hl 1 rfl) ?_
          refine lv_aload_n hx hb dX8_strike_77 rfl (lv_at hl 0 rfl) ?_
          refine gf_X8_62 C h (hM 30 (by decide)) rfl (k2 := 57) rfl dX8_strike_78 ?_
          refine lv_iload_n hx hb dX8_strike_81 rfl (lv_at hl 1 rfl) ?_
          refine lv_iconst (v := nI 1) hx hb dX8_strike_82 (by decide) ?_
          refine x_addN hx hb dX8_strike_83 ?_
          refine x_ald C h (hM 57 (by decide)) (n := 6) rfl (i + 1) (by omega) (by decide) rfl dX8_strike_84 ?_
          refine x_ast C h (hM 57 (by decide)) (n := 6) rfl i (by omega) (by decide) rfl dX8_strike_85 (fun H locs u16 eu16 h => ?_)
          have e17 : gi u16 24 30 = nI n := by rw [eu16]; exact e15
          refine lv_iinc (v := nI (i + 1)) (lv' := [(2, .int (nI (i + 1))), (0, .ref (ad 30))]) hx hb dX8_strike_86 hl (k := 1) rfl (nI_add _ _) (by decide) rfl (fun ls hl => ?_)
          refine lv_goto (tgt := 34) hx hb dX8_strike_89 (by decide) ?_
          exact ih34 u16 (i + 1) (mrmS_s (si st 0 30 (nI 0)) hji v hv u12 u14 u16 eu12 eu14 eu16) (by omega) (by omega) (by omega) H locs ls h (lv_sub hl [1, 0] rfl)
    exact L34 (n + 1) u6 j (eu6.trans (mrmS_0 _ j).symm) (Nat.le_refl _) hj (by omega) H locs ls h (lv_sub hl [1, 0] rfl)
