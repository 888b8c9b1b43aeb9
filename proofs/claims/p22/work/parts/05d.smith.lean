/-! ===== InvoiceSmith's methods ===== -/
theorem exK_i {k : Nat} {L : List String} {E : String} (j : Nat) (h1 : k = j + 1) (h2 : L[j]? = some E) : exK k L E := ⟨j, h1, h2⟩
/-- how many signs are packed, none where they can't be typed -/
def csN : Nat → Nat → Nat → Option Nat
  | 0, _, _ => some 8
  | k + 1, n, c => if n % 256 = 0 then (if n = 0 then some c else none) else if n % 256 < 32 ∨ 126 < n % 256 then none else csN k (n / 256) (c + 1)
theorem csF_N : ∀ (k n c : Nat), csF k n c = match csN k n c with | none => -1 | some j => nI j := by
  intro k
  induction k with
  | zero => intro n c; rfl
  | succ k ih =>
    intro n c
    rw [csF, csN]
    by_cases h1 : n % 256 = 0
    · rw [if_pos h1, if_pos h1]
      by_cases h2 : n = 0
      · rw [if_pos h2, if_pos h2]
      · rw [if_neg h2, if_neg h2]
    · rw [if_neg h1, if_neg h1]
      by_cases h2 : n % 256 < 32 ∨ 126 < n % 256
      · rw [if_pos h2, if_pos h2]
      · rw [if_neg h2, if_neg h2]; exact ih _ _
theorem csN_le : ∀ (k n c j : Nat), csN k n c = some j → c + k = 8 → j ≤ 8 := by
  intro k
  induction k with
  | zero => intro n c j h _; cases h; exact Nat.le_refl _
  | succ k ih =>
    intro n c j h hc
    rw [csN] at h
    by_cases h1 : n % 256 = 0
    · rw [if_pos h1] at h
      by_cases h2 : n = 0
      · rw [if_pos h2] at h; cases h; omega
      · rw [if_neg h2] at h; cases h
    · rw [if_neg h1] at h
      by_cases h2 : n % 256 < 32 ∨ 126 < n % 256
      · rw [if_pos h2] at h; cases h
      · rw [if_neg h2] at h; exact ih _ _ _ h (by omega)
def kType (np n : Nat) : Nat := match csN 8 n 0 with | none => 1 | some k => if 160 < np + k then 2 else 0
def kPass (x : Int32) : Nat := if x < nI 1 ∨ ¬ x ≤ nI 99 then 1 else 0
def kRate (n : Nat) (p k h f : Int32) : Nat := if bdI 4 p then 1 else if bdI 4 k then 1 else if h < 0 ∨ nI 100 < h ∨ f < 0 ∨ ¬ f ≤ nI 9999 then 2 else if 60 ≤ n then 3 else 0
def kTell (p k d : Int32) : Nat := if bdI 4 p then 1 else if bdI 4 k then 1 else if d < 0 ∨ ¬ d ≤ nI 9999 then 2 else 0
def kRound (p w : Int32) : Nat := if bdI 4 p then 1 else if w < 0 ∨ ¬ w ≤ nI 2 then 2 else 0
def kClient (c p : Int32) : Nat := if bdI 10 c then 1 else if bdI 4 p then 1 else 0
def kLine (n : Nat) (k q p : Int32) : Nat := if bdI 4 k then 1 else if q < nI 1 ∨ nI 99 < q ∨ p < nI 1 ∨ ¬ p ≤ nI 9999 then 2 else if 6 ≤ n then 3 else 0
def kStrike (n : Nat) (i : Int32) : Nat := if ¬ i < 0 ∧ i < nI n then 0 else 1
def kInv (nB : Nat) (i w : Int32) : Nat := if bdI nB i then 1 else if w = nI 0 ∨ w = nI 1 ∨ w = nI 2 ∨ w = nI 3 ∨ w = nI 4 ∨ w = nI 5 ∨ w = nI 6 ∨ w = nI 7 then 0 else 2
def kBill (nB : Nat) (i : Int32) : Nat := if bdI nB i then 1 else 0
def kUsed (nB : Nat) (ln : Nat → Nat) (i x : Int32) : Nat := if bdI nB i then 1 else if ¬ x < 0 ∧ x < nI (ln i.toNatClampNeg) then 0 else 1
def kPlace (p : Int32) : Nat := if bdI 4 p then 1 else 0
def kNote (n : Nat) (i w : Int32) : Nat := if bdI n i then 1 else if w = nI 0 ∨ w = nI 1 ∨ w = nI 2 then 0 else 2
/-- what invoice(b, w) answers -/
def invS (st : XS) (b n : Nat) (w : Int32) : Int32 :=
  if w = nI 0 then gi st 5 (100 + 6 * b) else if w = nI 1 then gi st 6 (100 + 6 * b) else if w = nI 2 then nI n else if w = nI 3 then sumA (bQ st b) (bP st b) n else if w = nI 4 then gi st 11 (100 + 6 * b)
  else if w = nI 5 then gi st 11 (100 + 6 * b) + gi st 12 (100 + 6 * b) else if w = nI 6 then gi st 7 (100 + 6 * b) else gi st 8 (100 + 6 * b)
/-- the rates of a bill's place and day as they are known now, in the row for them -/
def tkS (st : XS) (nr b : Nat) : XS := sa st 10 (fup (ga st 10) (fun k => rtOf (ga st 15) (knS st nr (gi st 7 (100 + 6 * b)) (nI k) (gi st 6 (100 + 6 * b)))) 4)
def tkN (st : XS) (nr b n : Nat) : Int32 := txB (gi st 8 (100 + 6 * b)) (bK st b) (bQ st b) (bP st b) (ga (tkS st nr b) 10) n
theorem bR_tk (st : XS) (nr b : Nat) : bK (tkS st nr b) b = bK st b ∧ bQ (tkS st nr b) b = bQ st b ∧ bP (tkS st nr b) b = bP st b := by
  refine ⟨?_, ?_, ?_⟩
  · show ga (tkS st nr b) (100 + 6 * b + 1) = _; unfold tkS; rw [ga_sa, if_neg (by omega)]
  · show ga (tkS st nr b) (100 + 6 * b + 2) = _; unfold tkS; rw [ga_sa, if_neg (by omega)]
  · show ga (tkS st nr b) (100 + 6 * b + 3) = _; unfold tkS; rw [ga_sa, if_neg (by omega)]

set_option maxHeartbeats 4000000 in
set_option maxRecDepth 100000 in
theorem c_X7_pass (l : Launch) (hl0 : l.stackTraces = false) (D : va_G) (cy : Nat → ClassId) (ad : Nat → Nat) (Ls : List Nat) (st : XS) (hL : ∀ k, xC k = true → k ∈ Ls) (x : Int32) : xXi l yX7_pass cX7_pass 2 (some .int) 6 4 24 D cy ad Ls st [.ref (ad 0), .int x] (fun E => exK (kPass x) [eIAE] E) (fun r u => kPass x = 0 ∧ r = gi st 4 0 + x ∧ u = si st 4 0 (gi st 4 0 + x)) := by
  intro sz
  refine x_ofX sz (by decide +kernel) (Nat.le_of_ble_eq_true rfl) ?_
  intro p e s m args below meth c ls hx hb hr hlocks hT0 C hsz h hl
  have hl : lv_has ls 2 [(0, .ref (ad 0)), (1, .int x)] := hl
  obtain ⟨H, eH⟩ : ∃ z, z = s.heap := ⟨_, rfl⟩
  obtain ⟨locs, eL⟩ : ∃ z : List Loc, z = [] := ⟨_, rfl⟩
  rw [← eH, ← eL] at h
  rw [← eH, ← eL]
  clear eH eL
  refine lv_iload_n hx hb dX7_pass_0 rfl (lv_at hl 1 rfl) ?_
  refine lv_iconst (v := nI 1) hx hb dX7_pass_1 (by decide) ?_
  refine lv_icmp_lt (tgt := 11) hx hb dX7_pass_2 (by decide) (fun c2 => ?_) (fun c2 => ?_)
  · exact x_thr C h hl0 hT0 hlocks th_IAE (List.mem_of_getElem? (i := 4) rfl) hl.1 ⟨Nat.le_of_ble_eq_true rfl, Nat.le_of_ble_eq_true rfl⟩ ⟨Nat.le_of_ble_eq_true rfl, Nat.le_of_ble_eq_true rfl⟩ ⟨Nat.le_of_ble_eq_true rfl, Nat.le_of_ble_eq_true rfl⟩ rfl (exK_i 0 (by simp only [kPass, if_true, if_false, true_or, or_true, false_or, or_false, or_self, not_true_eq_false, not_false_eq_true, Bool.false_eq_true, eq_self, and_self, and_true, true_and, false_and, and_false, c2]) rfl) dX7_pass_11 dX7_pass_14 dX7_pass_15 dX7_pass_17 dX7_pass_20
  · refine lv_iload_n hx hb dX7_pass_5 rfl (lv_at hl 1 rfl) ?_
    refine lv_bipush (v := nI 99) hx hb dX7_pass_6 (by decide) ?_
    refine lv_icmp_le (tgt := 21) hx hb dX7_pass_8 (by decide) (fun c8 => ?_) (fun c8 => ?_)
    · refine lv_aload_n hx hb dX7_pass_21 rfl (lv_at hl 0 rfl) ?_
      refine lv_dup hx hb dX7_pass_22 rfl ?_
      refine gf_X7_115 C h (hL 0 rfl) rfl dX7_pass_23 ?_
      refine lv_iload_n hx hb dX7_pass_26 rfl (lv_at hl 1 rfl) ?_
      refine lv_iadd hx hb dX7_pass_27 ?_
      refine pf_X7_115 C h (hL 0 rfl) rfl dX7_pass_28 (fun H locs u1 eu1 h => ?_)
      have e2 : gi u1 4 0 = (gi st 4 0) + x := by rw [eu1, gi_si, if_pos ⟨rfl, rfl⟩]
      refine lv_aload_n hx hb dX7_pass_31 rfl (lv_at hl 0 rfl) ?_
      refine gf_X7_115 C h (hL 0 rfl) rfl dX7_pass_32 ?_
      refine x_topi e2 ?_
      exact x_iretX C hr hlocks h (Nat.le_of_ble_eq_true rfl) (Nat.le_of_ble_eq_true rfl) ⟨by simp only [kPass, if_true, if_false, true_or, or_true, false_or, or_false, or_self, not_true_eq_false, not_false_eq_true, Bool.false_eq_true, eq_self, and_self, and_true, true_and, false_and, and_false, c2, c8], rfl, eu1⟩ dX7_pass_35
    · exact x_thr C h hl0 hT0 hlocks th_IAE (List.mem_of_getElem? (i := 4) rfl) hl.1 ⟨Nat.le_of_ble_eq_true rfl, Nat.le_of_ble_eq_true rfl⟩ ⟨Nat.le_of_ble_eq_true rfl, Nat.le_of_ble_eq_true rfl⟩ ⟨Nat.le_of_ble_eq_true rfl, Nat.le_of_ble_eq_true rfl⟩ rfl (exK_i 0 (by simp only [kPass, if_true, if_false, true_or, or_true, false_or, or_false, or_self, not_true_eq_false, not_false_eq_true, Bool.false_eq_true, eq_self, and_self, and_true, true_and, false_and, and_false, c2, c8]) rfl) dX7_pass_11 dX7_pass_14 dX7_pass_15 dX7_pass_17 dX7_pass_20

set_option maxHeartbeats 4000000 in
set_option maxRecDepth 100000 in
theorem c_X7_rate (l : Launch) (hl0 : l.stackTraces = false) (D : va_G) (cy : Nat → ClassId) (ad : Nat → Nat) (Ls : List Nat) (st : XS) (hL : ∀ k, xC k = true → k ∈ Ls) (n : Nat) (hn60 : n ≤ 60) (hc : gi st 4 4 = nI n) (p9 k9 h9 f9 : Int32) : xXi l yX7_rate cX7_rate 5 (some .int) 8 4 24 D cy ad Ls st [.ref (ad 0), .int p9, .int k9, .int h9, .int f9] (fun E => exK (kRate n p9 k9 h9 f9) [eIOB, eIAE, eISE] E) (fun r u => kRate n p9 k9 h9 f9 = 0 ∧ r = nI n ∧ u = si (sa (sa (sa (sa st 13 (upd (ga st 13) n p9)) 14 (upd (ga st 14) n k9)) 15 (upd (ga st 15) n h9)) 16 (upd (ga st 16) n f9)) 4 4 (nI (n + 1))) := by
  intro sz
  refine x_ofX sz (by decide +kernel) (Nat.le_of_ble_eq_true rfl) ?_
  intro p e s m args below meth c ls hx hb hr hlocks hT0 C hsz h hl
  have hl : lv_has ls 5 [(0, .ref (ad 0)), (1, .int p9), (2, .int k9), (3, .int h9), (4, .int f9)] := hl
  obtain ⟨H, eH⟩ : ∃ z, z = s.heap := ⟨_, rfl⟩
  obtain ⟨locs, eL⟩ : ∃ z : List Loc, z = [] := ⟨_, rfl⟩
  rw [← eH, ← eL] at h
  rw [← eH, ← eL]
  clear eH eL
  refine lv_iload_n hx hb dX7_rate_0 rfl (lv_at hl 1 rfl) ?_
  refine cx_X7_118 C h (c_X7_checkPlace l hl0 D cy ad Ls st p9) (x_roomX (by omega)) ⟨Nat.le_of_ble_eq_true rfl, Nat.le_of_ble_eq_true rfl⟩ hl.1 (Nat.le_of_ble_eq_true rfl) dX7_rate_1 (x_up C hT0 hlocks rfl (fun E z9 => exK_i 0 (by simp only [kRate, if_true, if_false, true_or, or_true, false_or, or_false, or_self, not_true_eq_false, not_false_eq_true, Bool.false_eq_true, eq_self, and_self, and_true, true_and, false_and, and_false, z9.2]) (by rw [z9.1]; rfl)) ⟨Nat.le_of_ble_eq_true rfl, Nat.le_of_ble_eq_true rfl⟩) (fun u1 H locs hp h => ?_)
  obtain ⟨eu1, g3⟩ := hp; rw [eu1] at h; clear eu1 u1
  refine lv_iload_n hx hb dX7_rate_4 rfl (lv_at hl 2 rfl) ?_
  refine cx_X7_122 C h (c_X7_checkKind l hl0 D cy ad Ls st k9) (x_roomX (by omega)) ⟨Nat.le_of_ble_eq_true rfl, Nat.le_of_ble_eq_true rfl⟩ hl.1 (Nat.le_of_ble_eq_true rfl) dX7_rate_5 (x_up C hT0 hlocks rfl (fun E z9 => exK_i 0 (by simp only [kRate, if_true, if_false, true_or, or_true, false_or, or_false, or_self, not_true_eq_false, not_false_eq_true, Bool.false_eq_true, eq_self, and_self, and_true, true_and, false_and, and_false, g3, z9.2]) (by rw [z9.1]; rfl)) ⟨Nat.le_of_ble_eq_true rfl, Nat.le_of_ble_eq_true rfl⟩) (fun u4 H locs hp h => ?_)
  obtain ⟨eu4, g6⟩ := hp; rw [eu4] at h; clear eu4 u4
  refine lv_iload_n hx hb dX7_rate_8 rfl (lv_at hl 3 rfl) ?_
  refine lv_if_lt (tgt := 31) hx hb dX7_rate_9 (by decide) (fun c9 => ?_) (fun c9 => ?_)
  · exact x_thr C h hl0 hT0 hlocks th_IAE (List.mem_of_getElem? (i := 7) rfl) hl.1 ⟨Nat.le_of_ble_eq_true rfl, Nat.le_of_ble_eq_true rfl⟩ ⟨Nat.le_of_ble_eq_true rfl, Nat.le_of_ble_eq_true rfl⟩ ⟨Nat.le_of_ble_eq_true rfl, Nat.le_of_ble_eq_true rfl⟩ rfl (exK_i 1 (by simp only [kRate, if_true, if_false, true_or, or_true, false_or, or_false, or_self, not_true_eq_false, not_false_eq_true, Bool.false_eq_true, eq_self, and_self, and_true, true_and, false_and, and_false, g3, g6, c9]) rfl) dX7_rate_31 dX7_rate_34 dX7_rate_35 dX7_rate_37 dX7_rate_40
  · refine lv_iload_n hx hb dX7_rate_12 rfl (lv_at hl 3 rfl) ?_
    refine lv_bipush (v := nI 100) hx hb dX7_rate_13 (by decide) ?_
    refine lv_icmp_gt (tgt := 31) hx hb dX7_rate_15 (by decide) (fun c15 => ?_) (fun c15 => ?_)
    · exact x_thr C h hl0 hT0 hlocks th_IAE (List.mem_of_getElem? (i := 7) rfl) hl.1 ⟨Nat.le_of_ble_eq_true rfl, Nat.le_of_ble_eq_true rfl⟩ ⟨Nat.le_of_ble_eq_true rfl, Nat.le_of_ble_eq_true rfl⟩ ⟨Nat.le_of_ble_eq_true rfl, Nat.le_of_ble_eq_true rfl⟩ rfl (exK_i 1 (by simp only [kRate, if_true, if_false, true_or, or_true, false_or, or_false, or_self, not_true_eq_false, not_false_eq_true, Bool.false_eq_true, eq_self, and_self, and_true, true_and, false_and, and_false, g3, g6, c9, c15]) rfl) dX7_rate_31 dX7_rate_34 dX7_rate_35 dX7_rate_37 dX7_rate_40
    · refine lv_iload hx hb dX7_rate_18 (lv_at hl 4 rfl) ?_
      refine lv_if_lt (tgt := 31) hx hb dX7_rate_20 (by decide) (fun c20 => ?_) (fun c20 => ?_)
      · exact x_thr C h hl0 hT0 hlocks th_IAE (List.mem_of_getElem? (i := 7) rfl) hl.1 ⟨Nat.le_of_ble_eq_true rfl, Nat.le_of_ble_eq_true rfl⟩ ⟨Nat.le_of_ble_eq_true rfl, Nat.le_of_ble_eq_true rfl⟩ ⟨Nat.le_of_ble_eq_true rfl, Nat.le_of_ble_eq_true rfl⟩ rfl (exK_i 1 (by simp only [kRate, if_true, if_false, true_or, or_true, false_or, or_false, or_self, not_true_eq_false, not_false_eq_true, Bool.false_eq_true, eq_self, and_self, and_true, true_and, false_and, and_false, g3, g6, c9, c15, c20]) rfl) dX7_rate_31 dX7_rate_34 dX7_rate_35 dX7_rate_37 dX7_rate_40
      · refine lv_iload hx hb dX7_rate_23 (lv_at hl 4 rfl) ?_
        refine lv_sipush (v := nI 9999) hx hb dX7_rate_25 (by decide) ?_
        refine lv_icmp_le (tgt := 41) hx hb dX7_rate_28 (by decide) (fun c28 => ?_) (fun c28 => ?_)
        · refine lv_aload_n hx hb dX7_rate_41 rfl (lv_at hl 0 rfl) ?_
          refine gf_X7_32 C h (hL 0 rfl) rfl (k2 := 4) rfl dX7_rate_42 ?_
          refine gf_X7_127 C h (hL 4 rfl) rfl dX7_rate_45 ?_
          refine x_topi hc ?_
          refine lv_bipush (v := nI 60) hx hb dX7_rate_48 (by decide) ?_
          refine x_icmpN_lt (tgt := 63) hx hb dX7_rate_50 (by decide) (by omega) (by omega) (fun c50 => ?_) (fun c50 => ?_)
          · refine lv_aload_n hx hb dX7_rate_63 rfl (lv_at hl 0 rfl) ?_
            refine gf_X7_32 C h (hL 0 rfl) rfl (k2 := 4) rfl dX7_rate_64 ?_
            refine lv_iload_n hx hb dX7_rate_67 rfl (lv_at hl 1 rfl) ?_
            refine lv_iload_n hx hb dX7_rate_68 rfl (lv_at hl 2 rfl) ?_
            refine lv_iload_n hx hb dX7_rate_69 rfl (lv_at hl 3 rfl) ?_
            refine lv_iload hx hb dX7_rate_70 (lv_at hl 4 rfl) ?_
            refine cl_X7_132 C h (hL 4 rfl) rfl (c_X4_tell l D cy ad Ls st hL n (by omega) hc p9 k9 h9 f9) (x_roomX (by omega)) ⟨Nat.le_of_ble_eq_true rfl, Nat.le_of_ble_eq_true rfl⟩ hl.1 (Nat.le_of_ble_eq_true rfl) dX7_rate_72 (fun r8 u7 H locs hp h => ?_)
            obtain ⟨er, eu7⟩ := hp; refine x_topi er ?_; clear er r8
            exact x_iretX C hr hlocks h (Nat.le_of_ble_eq_true rfl) (Nat.le_of_ble_eq_true rfl) ⟨by simp only [kRate, if_true, if_false, true_or, or_true, false_or, or_false, or_self, not_true_eq_false, not_false_eq_true, Bool.false_eq_true, eq_self, and_self, and_true, true_and, false_and, and_false, g3, g6, c9, c15, c20, c28, c50, Nat.not_le.mpr c50], rfl, eu7⟩ dX7_rate_75
          · exact x_thr C h hl0 hT0 hlocks th_ISE (List.mem_of_getElem? (i := 8) rfl) hl.1 ⟨Nat.le_of_ble_eq_true rfl, Nat.le_of_ble_eq_true rfl⟩ ⟨Nat.le_of_ble_eq_true rfl, Nat.le_of_ble_eq_true rfl⟩ ⟨Nat.le_of_ble_eq_true rfl, Nat.le_of_ble_eq_true rfl⟩ rfl (exK_i 2 (by simp only [kRate, if_true, if_false, true_or, or_true, false_or, or_false, or_self, not_true_eq_false, not_false_eq_true, Bool.false_eq_true, eq_self, and_self, and_true, true_and, false_and, and_false, g3, g6, c9, c15, c20, c28, c50, Nat.not_lt.mpr c50]) rfl) dX7_rate_53 dX7_rate_56 dX7_rate_57 dX7_rate_59 dX7_rate_62
        · exact x_thr C h hl0 hT0 hlocks th_IAE (List.mem_of_getElem? (i := 7) rfl) hl.1 ⟨Nat.le_of_ble_eq_true rfl, Nat.le_of_ble_eq_true rfl⟩ ⟨Nat.le_of_ble_eq_true rfl, Nat.le_of_ble_eq_true rfl⟩ ⟨Nat.le_of_ble_eq_true rfl, Nat.le_of_ble_eq_true rfl⟩ rfl (exK_i 1 (by simp only [kRate, if_true, if_false, true_or, or_true, false_or, or_false, or_self, not_true_eq_false, not_false_eq_true, Bool.false_eq_true, eq_self, and_self, and_true, true_and, false_and, and_false, g3, g6, c9, c15, c20, c28]) rfl) dX7_rate_31 dX7_rate_34 dX7_rate_35 dX7_rate_37 dX7_rate_40

set_option maxHeartbeats 4000000 in
set_option maxRecDepth 100000 in
theorem c_X7_telling (l : Launch) (hl0 : l.stackTraces = false) (D : va_G) (cy : Nat → ClassId) (ad : Nat → Nat) (Ls : List Nat) (st : XS) (hL : ∀ k, xC k = true → k ∈ Ls) (n : Nat) (hn60 : n ≤ 60) (hc : gi st 4 4 = nI n) (p9 k9 d9 : Int32) : xXi l yX7_telling cX7_telling 4 (some .int) 8 4 24 D cy ad Ls st [.ref (ad 0), .int p9, .int k9, .int d9] (fun E => exK (kTell p9 k9 d9) [eIOB, eIAE] E) (fun r u => kTell p9 k9 d9 = 0 ∧ r = knS st n p9 k9 d9 ∧ u = st) := by
  intro sz
  refine x_ofX sz (by decide +kernel) (Nat.le_of_ble_eq_true rfl) ?_
  intro p e s m args below meth c ls hx hb hr hlocks hT0 C hsz h hl
  have hl : lv_has ls 4 [(0, .ref (ad 0)), (1, .int p9), (2, .int k9), (3, .int d9)] := hl
  obtain ⟨H, eH⟩ : ∃ z, z = s.heap := ⟨_, rfl⟩
  obtain ⟨locs, eL⟩ : ∃ z : List Loc, z = [] := ⟨_, rfl⟩
  rw [← eH, ← eL] at h
  rw [← eH, ← eL]
  clear eH eL
  refine lv_iload_n hx hb dX7_telling_0 rfl (lv_at hl 1 rfl) ?_
  refine cx_X7_118 C h (c_X7_checkPlace l hl0 D cy ad Ls st p9) (x_roomX (by omega)) ⟨Nat.le_of_ble_eq_true rfl, Nat.le_of_ble_eq_true rfl⟩ hl.1 (Nat.le_of_ble_eq_true rfl) dX7_telling_1 (x_up C hT0 hlocks rfl (fun E z9 => exK_i 0 (by simp only [kTell, if_true, if_false, true_or, or_true, false_or, or_false, or_self, not_true_eq_false, not_false_eq_true, Bool.false_eq_true, eq_self, and_self, and_true, true_and, false_and, and_false, z9.2]) (by rw [z9.1]; rfl)) ⟨Nat.le_of_ble_eq_true rfl, Nat.le_of_ble_eq_true rfl⟩) (fun u1 H locs hp h => ?_)
  obtain ⟨eu1, g3⟩ := hp; rw [eu1] at h; clear eu1 u1
  refine lv_iload_n hx hb dX7_telling_4 rfl (lv_at hl 2 rfl) ?_
  refine cx_X7_122 C h (c_X7_checkKind l hl0 D cy ad Ls st k9) (x_roomX (by omega)) ⟨Nat.le_of_ble_eq_true rfl, Nat.le_of_ble_eq_true rfl⟩ hl.1 (Nat.le_of_ble_eq_true rfl) dX7_telling_5 (x_up C hT0 hlocks rfl (fun E z9 => exK_i 0 (by simp only [kTell, if_true, if_false, true_or, or_true, false_or, or_false, or_self, not_true_eq_false, not_false_eq_true, Bool.false_eq_true, eq_self, and_self, and_true, true_and, false_and, and_false, g3, z9.2]) (by rw [z9.1]; rfl)) ⟨Nat.le_of_ble_eq_true rfl, Nat.le_of_ble_eq_true rfl⟩) (fun u4 H locs hp h => ?_)
  obtain ⟨eu4, g6⟩ := hp; rw [eu4] at h; clear eu4 u4
  refine lv_iload_n hx hb dX7_telling_8 rfl (lv_at hl 3 rfl) ?_
  refine lv_if_lt (tgt := 19) hx hb dX7_telling_9 (by decide) (fun c9 => ?_) (fun c9 => ?_)
  · exact x_thr C h hl0 hT0 hlocks th_IAE (List.mem_of_getElem? (i := 9) rfl) hl.1 ⟨Nat.le_of_ble_eq_true rfl, Nat.le_of_ble_eq_true rfl⟩ ⟨Nat.le_of_ble_eq_true rfl, Nat.le_of_ble_eq_true rfl⟩ ⟨Nat.le_of_ble_eq_true rfl, Nat.le_of_ble_eq_true rfl⟩ rfl (exK_i 1 (by simp only [kTell, if_true, if_false, true_or, or_true, false_or, or_false, or_self, not_true_eq_false, not_false_eq_true, Bool.false_eq_true, eq_self, and_self, and_true, true_and, false_and, and_false, g3, g6, c9]) rfl) dX7_telling_19 dX7_telling_22 dX7_telling_23 dX7_telling_25 dX7_telling_28
  · refine lv_iload_n hx hb dX7_telling_12 rfl (lv_at hl 3 rfl) ?_
    refine lv_sipush (v := nI 9999) hx hb dX7_telling_13 (by decide) ?_
    refine lv_icmp_le (tgt := 29) hx hb dX7_telling_16 (by decide) (fun c16 => ?_) (fun c16 => ?_)
    · refine lv_aload_n hx hb dX7_telling_29 rfl (lv_at hl 0 rfl) ?_
      refine gf_X7_32 C h (hL 0 rfl) rfl (k2 := 4) rfl dX7_telling_30 ?_
      refine lv_iload_n hx hb dX7_telling_33 rfl (lv_at hl 1 rfl) ?_
      refine lv_iload_n hx hb dX7_telling_34 rfl (lv_at hl 2 rfl) ?_
      refine lv_iload_n hx hb dX7_telling_35 rfl (lv_at hl 3 rfl) ?_
      refine cl_X7_138 C h (hL 4 rfl) rfl (c_X4_known l D cy ad Ls st hL n hn60 hc p9 k9 d9) (x_roomX (by omega)) ⟨Nat.le_of_ble_eq_true rfl, Nat.le_of_ble_eq_true rfl⟩ hl.1 (Nat.le_of_ble_eq_true rfl) dX7_telling_36 (fun r8 u7 H locs hp h => ?_)
      obtain ⟨er8, eu7⟩ := hp; rw [eu7] at h; clear eu7 u7; refine x_topi er8 ?_; clear er8 r8
      exact x_iretX C hr hlocks h (Nat.le_of_ble_eq_true rfl) (Nat.le_of_ble_eq_true rfl) ⟨by simp only [kTell, if_true, if_false, true_or, or_true, false_or, or_false, or_self, not_true_eq_false, not_false_eq_true, Bool.false_eq_true, eq_self, and_self, and_true, true_and, false_and, and_false, g3, g6, c9, c16], rfl, rfl⟩ dX7_telling_39
    · exact x_thr C h hl0 hT0 hlocks th_IAE (List.mem_of_getElem? (i := 9) rfl) hl.1 ⟨Nat.le_of_ble_eq_true rfl, Nat.le_of_ble_eq_true rfl⟩ ⟨Nat.le_of_ble_eq_true rfl, Nat.le_of_ble_eq_true rfl⟩ ⟨Nat.le_of_ble_eq_true rfl, Nat.le_of_ble_eq_true rfl⟩ rfl (exK_i 1 (by simp only [kTell, if_true, if_false, true_or, or_true, false_or, or_false, or_self, not_true_eq_false, not_false_eq_true, Bool.false_eq_true, eq_self, and_self, and_true, true_and, false_and, and_false, g3, g6, c9, c16]) rfl) dX7_telling_19 dX7_telling_22 dX7_telling_23 dX7_telling_25 dX7_telling_28

set_option maxHeartbeats 4000000 in
set_option maxRecDepth 100000 in
theorem c_X7_round (l : Launch) (hl0 : l.stackTraces = false) (D : va_G) (cy : Nat → ClassId) (ad : Nat → Nat) (Ls : List Nat) (st : XS) (hL : ∀ k, xC k = true → k ∈ Ls) (p9 w9 : Int32) : xXi l yX7_round cX7_round 4 (some .int) 8 4 24 D cy ad Ls st [.ref (ad 0), .int p9, .int w9] (fun E => exK (kRound p9 w9) [eIOB, eIAE] E) (fun r u => kRound p9 w9 = 0 ∧ r = xget 4 (ga st 7) p9 ∧ u = sa st 7 (xset 4 (ga st 7) p9 w9)) := by
  intro sz
  refine x_ofX sz (by decide +kernel) (Nat.le_of_ble_eq_true rfl) ?_
  intro p e s m args below meth c ls hx hb hr hlocks hT0 C hsz h hl
  have hl : lv_has ls 4 [(0, .ref (ad 0)), (1, .int p9), (2, .int w9)] := hl
  obtain ⟨H, eH⟩ : ∃ z, z = s.heap := ⟨_, rfl⟩
  obtain ⟨locs, eL⟩ : ∃ z : List Loc, z = [] := ⟨_, rfl⟩
  rw [← eH, ← eL] at h
  rw [← eH, ← eL]
  clear eH eL
  refine lv_iload_n hx hb dX7_round_0 rfl (lv_at hl 1 rfl) ?_
  refine cx_X7_118 C h (c_X7_checkPlace l hl0 D cy ad Ls st p9) (x_roomX (by omega)) ⟨Nat.le_of_ble_eq_true rfl, Nat.le_of_ble_eq_true rfl⟩ hl.1 (Nat.le_of_ble_eq_true rfl) dX7_round_1 (x_up C hT0 hlocks rfl (fun E z9 => exK_i 0 (by simp only [kRound, if_true, if_false, true_or, or_true, false_or, or_false, or_self, not_true_eq_false, not_false_eq_true, Bool.false_eq_true, eq_self, and_self, and_true, true_and, false_and, and_false, z9.2]) (by rw [z9.1]; rfl)) ⟨Nat.le_of_ble_eq_true rfl, Nat.le_of_ble_eq_true rfl⟩) (fun u1 H locs hp h => ?_)
  obtain ⟨eu1, g3⟩ := hp; rw [eu1] at h; clear eu1 u1
  refine lv_iload_n hx hb dX7_round_4 rfl (lv_at hl 2 rfl) ?_
  refine lv_if_lt (tgt := 13) hx hb dX7_round_5 (by decide) (fun c5 => ?_) (fun c5 => ?_)
  · exact x_thr C h hl0 hT0 hlocks th_IAE (List.mem_of_getElem? (i := 10) rfl) hl.1 ⟨Nat.le_of_ble_eq_true rfl, Nat.le_of_ble_eq_true rfl⟩ ⟨Nat.le_of_ble_eq_true rfl, Nat.le_of_ble_eq_true rfl⟩ ⟨Nat.le_of_ble_eq_true rfl, Nat.le_of_ble_eq_true rfl⟩ rfl (exK_i 1 (by simp only [kRound, if_true, if_false, true_or, or_true, false_or, or_false, or_self, not_true_eq_false, not_false_eq_true, Bool.false_eq_true, eq_self, and_self, and_true, true_and, false_and, and_false, g3, c5]) rfl) dX7_round_13 dX7_round_16 dX7_round_17 dX7_round_19 dX7_round_22
  · refine lv_iload_n hx hb dX7_round_8 rfl (lv_at hl 2 rfl) ?_
    refine lv_iconst (v := nI 2) hx hb dX7_round_9 (by decide) ?_
    refine lv_icmp_le (tgt := 23) hx hb dX7_round_10 (by decide) (fun c10 => ?_) (fun c10 => ?_)
    · refine lv_aload_n hx hb dX7_round_23 rfl (lv_at hl 0 rfl) ?_
      refine gf_X7_36 C h (hL 0 rfl) rfl (k2 := 7) rfl dX7_round_24 ?_
      refine lv_iload_n hx hb dX7_round_27 rfl (lv_at hl 1 rfl) ?_
      refine cl_X7_144 C h (c_X7_get l D cy ad Ls st (hL 7 rfl) (n := 4) rfl (by decide) p9) (x_roomX (by omega)) ⟨Nat.le_of_ble_eq_true rfl, Nat.le_of_ble_eq_true rfl⟩ hl.1 (Nat.le_of_ble_eq_true rfl) dX7_round_28 (fun r5 u4 H locs hp h => ?_)
      obtain ⟨er5, eu4⟩ := hp; rw [eu4] at h; clear eu4 u4; refine x_topi er5 ?_; clear er5 r5
      refine lv_istore_n (lv' := [(3, .int (xget 4 (ga st 7) p9)), (0, .ref (ad 0)), (1, .int p9), (2, .int w9)]) hx hb dX7_round_31 rfl hl (by decide) rfl (fun ls hl => ?_)
      refine lv_aload_n hx hb dX7_round_32 rfl (lv_at hl 1 rfl) ?_
      refine gf_X7_36 C h (hL 0 rfl) rfl (k2 := 7) rfl dX7_round_33 ?_
      refine lv_iload_n hx hb dX7_round_36 rfl (lv_at hl 2 rfl) ?_
      refine lv_iload_n hx hb dX7_round_37 rfl (lv_at hl 3 rfl) ?_
      refine cl_X7_148 C h (c_X7_set l D cy ad Ls st (hL 7 rfl) (n := 4) rfl (by decide) p9 w9) (x_roomX (by omega)) ⟨Nat.le_of_ble_eq_true rfl, Nat.le_of_ble_eq_true rfl⟩ hl.1 (Nat.le_of_ble_eq_true rfl) dX7_round_38 (fun u6 H locs hp h => ?_)
      have eu6 := hp; clear hp
      refine lv_iload_n hx hb dX7_round_41 rfl (lv_at hl 0 rfl) ?_
      exact x_iretX C hr hlocks h (Nat.le_of_ble_eq_true rfl) (Nat.le_of_ble_eq_true rfl) ⟨by simp only [kRound, if_true, if_false, true_or, or_true, false_or, or_false, or_self, not_true_eq_false, not_false_eq_true, Bool.false_eq_true, eq_self, and_self, and_true, true_and, false_and, and_false, g3, c5, c10], rfl, eu6⟩ dX7_round_42
    · exact x_thr C h hl0 hT0 hlocks th_IAE (List.mem_of_getElem? (i := 10) rfl) hl.1 ⟨Nat.le_of_ble_eq_true rfl, Nat.le_of_ble_eq_true rfl⟩ ⟨Nat.le_of_ble_eq_true rfl, Nat.le_of_ble_eq_true rfl⟩ ⟨Nat.le_of_ble_eq_true rfl, Nat.le_of_ble_eq_true rfl⟩ rfl (exK_i 1 (by simp only [kRound, if_true, if_false, true_or, or_true, false_or, or_false, or_self, not_true_eq_false, not_false_eq_true, Bool.false_eq_true, eq_self, and_self, and_true, true_and, false_and, and_false, g3, c5, c10]) rfl) dX7_round_13 dX7_round_16 dX7_round_17 dX7_round_19 dX7_round_22

set_option maxHeartbeats 4000000 in
set_option maxRecDepth 100000 in
theorem c_X7_client (l : Launch) (hl0 : l.stackTraces = false) (D : va_G) (cy : Nat → ClassId) (ad : Nat → Nat) (Ls : List Nat) (st : XS) (hL : ∀ k, xC k = true → k ∈ Ls) (c9 p9 : Int32) : xXi l yX7_client cX7_client 4 (some .int) 8 4 24 D cy ad Ls st [.ref (ad 0), .int c9, .int p9] (fun E => exK (kClient c9 p9) [eIOB] E) (fun r u => kClient c9 p9 = 0 ∧ r = xget 10 (ga st 8) c9 ∧ u = sa st 8 (xset 10 (ga st 8) c9 p9)) := by
  intro sz
  refine x_ofX sz (by decide +kernel) (Nat.le_of_ble_eq_true rfl) ?_
  intro p e s m args below meth c ls hx hb hr hlocks hT0 C hsz h hl
  have hl : lv_has ls 4 [(0, .ref (ad 0)), (1, .int c9), (2, .int p9)] := hl
  obtain ⟨H, eH⟩ : ∃ z, z = s.heap := ⟨_, rfl⟩
  obtain ⟨locs, eL⟩ : ∃ z : List Loc, z = [] := ⟨_, rfl⟩
  rw [← eH, ← eL] at h
  rw [← eH, ← eL]
  clear eH eL
  refine lv_iload_n hx hb dX7_client_0 rfl (lv_at hl 1 rfl) ?_
  refine cx_X7_152 C h (c_X7_checkClient l hl0 D cy ad Ls st c9) (x_roomX (by omega)) ⟨Nat.le_of_ble_eq_true rfl, Nat.le_of_ble_eq_true rfl⟩ hl.1 (Nat.le_of_ble_eq_true rfl) dX7_client_1 (x_up C hT0 hlocks rfl (fun E z9 => exK_i 0 (by simp only [kClient, if_true, if_false, true_or, or_true, false_or, or_false, or_self, not_true_eq_false, not_false_eq_true, Bool.false_eq_true, eq_self, and_self, and_true, true_and, false_and, and_false, z9.2]) (by rw [z9.1]; rfl)) ⟨Nat.le_of_ble_eq_true rfl, Nat.le_of_ble_eq_true rfl⟩) (fun u1 H locs hp h => ?_)
  obtain ⟨eu1, g3⟩ := hp; rw [eu1] at h; clear eu1 u1
  refine lv_iload_n hx hb dX7_client_4 rfl (lv_at hl 2 rfl) ?_
  refine cx_X7_118 C h (c_X7_checkPlace l hl0 D cy ad Ls st p9) (x_roomX (by omega)) ⟨Nat.le_of_ble_eq_true rfl, Nat.le_of_ble_eq_true rfl⟩ hl.1 (Nat.le_of_ble_eq_true rfl) dX7_client_5 (x_up C hT0 hlocks rfl (fun E z9 => exK_i 0 (by simp only [kClient, if_true, if_false, true_or, or_true, false_or, or_false, or_self, not_true_eq_false, not_false_eq_true, Bool.false_eq_true, eq_self, and_self, and_true, true_and, false_and, and_false, g3, z9.2]) (by rw [z9.1]; rfl)) ⟨Nat.le_of_ble_eq_true rfl, Nat.le_of_ble_eq_true rfl⟩) (fun u4 H locs hp h => ?_)
  obtain ⟨eu4, g6⟩ := hp; rw [eu4] at h; clear eu4 u4
  refine lv_aload_n hx hb dX7_client_8 rfl (lv_at hl 0 rfl) ?_
  refine gf_X7_40 C h (hL 0 rfl) rfl (k2 := 8) rfl dX7_client_9 ?_
  refine lv_iload_n hx hb dX7_client_12 rfl (lv_at hl 1 rfl) ?_
  refine cl_X7_144 C h (c_X7_get l D cy ad Ls st (hL 8 rfl) (n := 10) rfl (by decide) c9) (x_roomX (by omega)) ⟨Nat.le_of_ble_eq_true rfl, Nat.le_of_ble_eq_true rfl⟩ hl.1 (Nat.le_of_ble_eq_true rfl) dX7_client_13 (fun r8 u7 H locs hp h => ?_)
  obtain ⟨er8, eu7⟩ := hp; rw [eu7] at h; clear eu7 u7; refine x_topi er8 ?_; clear er8 r8
  refine lv_istore_n (lv' := [(3, .int (xget 10 (ga st 8) c9)), (0, .ref (ad 0)), (1, .int c9), (2, .int p9)]) hx hb dX7_client_16 rfl hl (by decide) rfl (fun ls hl => ?_)
  refine lv_aload_n hx hb dX7_client_17 rfl (lv_at hl 1 rfl) ?_
  refine gf_X7_40 C h (hL 0 rfl) rfl (k2 := 8) rfl dX7_client_18 ?_
  refine lv_iload_n hx hb dX7_client_21 rfl (lv_at hl 2 rfl) ?_
  refine lv_iload_n hx hb dX7_client_22 rfl (lv_at hl 3 rfl) ?_
  refine cl_X7_148 C h (c_X7_set l D cy ad Ls st (hL 8 rfl) (n := 10) rfl (by decide) c9 p9) (x_roomX (by omega)) ⟨Nat.le_of_ble_eq_true rfl, Nat.le_of_ble_eq_true rfl⟩ hl.1 (Nat.le_of_ble_eq_true rfl) dX7_client_23 (fun u9 H locs hp h => ?_)
  have eu9 := hp; clear hp
  refine lv_iload_n hx hb dX7_client_26 rfl (lv_at hl 0 rfl) ?_
  exact x_iretX C hr hlocks h (Nat.le_of_ble_eq_true rfl) (Nat.le_of_ble_eq_true rfl) ⟨by simp only [kClient, if_true, if_false, true_or, or_true, false_or, or_false, or_self, not_true_eq_false, not_false_eq_true, Bool.false_eq_true, eq_self, and_self, and_true, true_and, false_and, and_false, g3, g6], rfl, eu9⟩ dX7_client_27

set_option maxHeartbeats 4000000 in
set_option maxRecDepth 100000 in
theorem c_X7_notes (l : Launch) (D : va_G) (cy : Nat → ClassId) (ad : Nat → Nat) (Ls : List Nat) (st : XS) (hL : ∀ k, xC k = true → k ∈ Ls) (n : Nat) (hc : gi st 3 5 = nI n) : xMi l yX7_notes cX7_notes 1 (some .int) 6 D cy ad Ls st [.ref (ad 0)] (fun r u => r = nI n ∧ u = st) := by
  intro sz
  refine x_of sz (by decide +kernel) (Nat.le_of_ble_eq_true rfl) ?_
  intro p e s m args below meth c ls hx hb hr hlocks C hsz h hl
  have hl : lv_has ls 1 [(0, .ref (ad 0))] := hl
  obtain ⟨H, eH⟩ : ∃ z, z = s.heap := ⟨_, rfl⟩
  obtain ⟨locs, eL⟩ : ∃ z : List Loc, z = [] := ⟨_, rfl⟩
  rw [← eH, ← eL] at h
  rw [← eH, ← eL]
  clear eH eL
  refine lv_aload_n hx hb dX7_notes_0 rfl (lv_at hl 0 rfl) ?_
  refine gf_X7_60 C h (hL 0 rfl) rfl (k2 := 5) rfl dX7_notes_1 ?_
  refine gf_X7_249 C h (hL 5 rfl) rfl dX7_notes_4 ?_
  refine x_topi hc ?_
  exact x_iret C hr hlocks h ⟨rfl, rfl⟩ dX7_notes_7

set_option maxHeartbeats 4000000 in
set_option maxRecDepth 100000 in
theorem c_X7_taxKnownNow (l : Launch) (D : va_G) (cy : Nat → ClassId) (ad : Nat → Nat) (Ls : List Nat) (st : XS) (hL : ∀ k, xC k = true → k ∈ Ls) (n : Nat) (hn60 : n ≤ 60) (hc : gi st 4 4 = nI n) (b : Nat) (hb33 : b < 33) (hB : ∀ j, j < 6 → 100 + 6 * b + j ∈ Ls) (nb : Nat) (hn6 : nb ≤ 6) (hcn : gi st 3 (100 + 6 * b) = nI nb) : xMi l yX7_taxKnownNow cX7_taxKnownNow 2 (some .int) 6 D cy ad Ls st [.ref (ad 0), .ref (ad (100 + 6 * b))] (fun r u => r = tkN st n b nb ∧ u = tkS st n b) := by
  intro sz
  refine x_of sz (by decide +kernel) (Nat.le_of_ble_eq_true rfl) ?_
  intro p e s m args below meth c ls hx hb hr hlocks C hsz h hl
  have hl : lv_has ls 2 [(0, .ref (ad 0)), (1, .ref (ad (100 + 6 * b)))] := hl
  obtain ⟨H, eH⟩ : ∃ z, z = s.heap := ⟨_, rfl⟩
  obtain ⟨locs, eL⟩ : ∃ z : List Loc, z = [] := ⟨_, rfl⟩
  rw [← eH, ← eL] at h
  rw [← eH, ← eL]
  clear eH eL
  refine lv_aload_n hx hb dX7_taxKnownNow_0 rfl (lv_at hl 0 rfl) ?_
  refine gf_X7_32 C h (hL 0 rfl) rfl (k2 := 4) rfl dX7_taxKnownNow_1 ?_
  refine lv_aload_n hx hb dX7_taxKnownNow_4 rfl (lv_at hl 1 rfl) ?_
  refine gf_X7_189 C h (show 100 + 6 * b ∈ Ls from hB 0 (by decide)) (kd_b0 hb33) dX7_taxKnownNow_5 ?_
  refine lv_aload_n hx hb dX7_taxKnownNow_8 rfl (lv_at hl 1 rfl) ?_
  refine gf_X7_186 C h (show 100 + 6 * b ∈ Ls from hB 0 (by decide)) (kd_b0 hb33) dX7_taxKnownNow_9 ?_
  refine lv_aload_n hx hb dX7_taxKnownNow_12 rfl (lv_at hl 0 rfl) ?_
  refine gf_X7_54 C h (hL 0 rfl) rfl (k2 := 10) rfl dX7_taxKnownNow_13 ?_
  refine cl_X7_205 C h (hL 4 rfl) rfl (c_X4_fillHundredths l D cy ad Ls st hL (hL 10 rfl) rfl n hn60 hc (gi st 7 (100 + 6 * b)) (gi st 6 (100 + 6 * b))) (x_room (by omega)) ⟨Nat.zero_le _, Nat.zero_le _⟩ hl.1 (Nat.le_of_ble_eq_true rfl) dX7_taxKnownNow_16 (fun u1 H locs hp h => ?_)
  have eu1 := hp; clear hp
  have hcn2 : gi u1 3 (100 + 6 * b) = nI nb := by rw [eu1]; exact hcn
  refine lv_aload_n hx hb dX7_taxKnownNow_19 rfl (lv_at hl 1 rfl) ?_
  refine lv_aload_n hx hb dX7_taxKnownNow_20 rfl (lv_at hl 0 rfl) ?_
  refine gf_X7_54 C h (hL 0 rfl) rfl (k2 := 10) rfl dX7_taxKnownNow_21 ?_
  refine cl_X7_208 C h (show 100 + 6 * b ∈ Ls from hB 0 (by decide)) (kd_b0 hb33) (c_X0_taxBy l D cy ad Ls u1 hb33 hB (hL 10 rfl) rfl nb hn6 hcn2) (x_room (by omega)) ⟨Nat.zero_le _, Nat.zero_le _⟩ hl.1 (Nat.le_of_ble_eq_true rfl) dX7_taxKnownNow_24 (fun r4 u3 H locs hp h => ?_)
  obtain ⟨er4, eu3⟩ := hp; rw [eu3] at h; clear eu3 u3; refine x_topi er4 ?_; clear er4 r4
  exact x_iret C hr hlocks h ⟨by rw [eu1]; show txB _ (bK (tkS st n b) b) (bQ (tkS st n b) b) (bP (tkS st n b) b) _ _ = _; rw [(bR_tk st n b).1, (bR_tk st n b).2.1, (bR_tk st n b).2.2]; rfl, eu1⟩ dX7_taxKnownNow_27

set_option maxHeartbeats 4000000 in
set_option maxRecDepth 100000 in
theorem c_X7_taxAnew (l : Launch) (hl0 : l.stackTraces = false) (D : va_G) (cy : Nat → ClassId) (ad : Nat → Nat) (Ls : List Nat) (st : XS) (hL : ∀ k, xC k = true → k ∈ Ls) (n : Nat) (hn60 : n ≤ 60) (hc : gi st 4 4 = nI n) (nB : Nat) (hnB : nB ≤ 30) (hrow : ∀ i, i < 30 → gb st 9 i = if i < nB then some (100 + 6 * i) else none) (hBL : ∀ b, b ≤ nB → ∀ j, j < 6 → 100 + 6 * b + j ∈ Ls) (ln : Nat → Nat) (hln : ∀ b, b ≤ nB → ln b ≤ 6 ∧ gi st 3 (100 + 6 * b) = nI (ln b)) (x : Int32) : xXi l yX7_taxAnew cX7_taxAnew 2 (some .int) 8 4 24 D cy ad Ls st [.ref (ad 0), .int x] (fun E => exK (kBill nB x) [eIOB] E) (fun r u => kBill nB x = 0 ∧ ∃ b : Nat, b < nB ∧ x = nI b ∧ r = tkN st n b (ln b) ∧ u = tkS st n b) := by
  intro sz
  refine x_ofX sz (by decide +kernel) (Nat.le_of_ble_eq_true rfl) ?_
  intro p e s m args below meth c ls hx hb hr hlocks hT0 C hsz h hl
  have hl : lv_has ls 2 [(0, .ref (ad 0)), (1, .int x)] := hl
  obtain ⟨H, eH⟩ : ∃ z, z = s.heap := ⟨_, rfl⟩
  obtain ⟨locs, eL⟩ : ∃ z : List Loc, z = [] := ⟨_, rfl⟩
  rw [← eH, ← eL] at h
  rw [← eH, ← eL]
  clear eH eL
  refine lv_aload_n hx hb dX7_taxAnew_0 rfl (lv_at hl 0 rfl) ?_
  refine lv_aload_n hx hb dX7_taxAnew_1 rfl (lv_at hl 0 rfl) ?_
  refine lv_iload_n hx hb dX7_taxAnew_2 rfl (lv_at hl 1 rfl) ?_
  refine cx_X7_215 C h (hL 0 rfl) rfl (c_X7_findBill l hl0 D cy ad Ls st hL nB hnB hrow x) (x_roomX (by omega)) ⟨Nat.le_of_ble_eq_true rfl, Nat.le_of_ble_eq_true rfl⟩ hl.1 (Nat.le_of_ble_eq_true rfl) dX7_taxAnew_3 (x_up C hT0 hlocks rfl (fun E z9 => exK_i 0 (by simp only [kBill, if_true, if_false, true_or, or_true, false_or, or_false, or_self, not_true_eq_false, not_false_eq_true, Bool.false_eq_true, eq_self, and_self, and_true, true_and, false_and, and_false, z9.2]) (by rw [z9.1]; rfl)) ⟨Nat.le_of_ble_eq_true rfl, Nat.le_of_ble_eq_true rfl⟩) (fun r2 u1 H locs hp h => ?_)
  obtain ⟨eu1, b, hbn, eb, er⟩ := hp; rw [eu1] at h; clear eu1 u1; subst er
  have g9 : ¬ bdI nB x := by rw [eb]; exact bdI_nI hbn (by omega)
  have hB := hBL b (by omega)
  have hb33 : b < 33 := by omega
  obtain ⟨hn6, hcn⟩ := hln b (by omega)
  obtain ⟨nb, enb⟩ : ∃ z, z = ln b := ⟨_, rfl⟩
  rw [← enb] at hn6 hcn
  refine x_topref (q := ad (100 + 6 * b)) rfl ?_
  refine cl_X7_227 C h (hL 0 rfl) rfl (c_X7_taxKnownNow l D cy ad Ls st hL n hn60 hc b hb33 hB nb hn6 hcn) (x_roomX (by omega)) ⟨Nat.le_of_ble_eq_true rfl, Nat.le_of_ble_eq_true rfl⟩ hl.1 (Nat.le_of_ble_eq_true rfl) dX7_taxAnew_6 (fun r4 u3 H locs hp h => ?_)
  obtain ⟨er, eu3⟩ := hp; refine x_topi er ?_; clear er r4
  exact x_iretX C hr hlocks h (Nat.le_of_ble_eq_true rfl) (Nat.le_of_ble_eq_true rfl) ⟨by simp only [kBill, if_true, if_false, true_or, or_true, false_or, or_false, or_self, not_true_eq_false, not_false_eq_true, Bool.false_eq_true, eq_self, and_self, and_true, true_and, false_and, and_false, g9], b, hbn, eb, by rw [← enb], eu3⟩ dX7_taxAnew_9

set_option maxHeartbeats 4000000 in
set_option maxRecDepth 100000 in
theorem c_X7_used (l : Launch) (hl0 : l.stackTraces = false) (D : va_G) (cy : Nat → ClassId) (ad : Nat → Nat) (Ls : List Nat) (st : XS) (hL : ∀ k, xC k = true → k ∈ Ls) (nB : Nat) (hnB : nB ≤ 30) (hrow : ∀ i, i < 30 → gb st 9 i = if i < nB then some (100 + 6 * i) else none) (hBL : ∀ b, b ≤ nB → ∀ j, j < 6 → 100 + 6 * b + j ∈ Ls) (ln : Nat → Nat) (hln : ∀ b, b ≤ nB → ln b ≤ 6 ∧ gi st 3 (100 + 6 * b) = nI (ln b)) (x y9 : Int32) : xXi l yX7_used cX7_used 4 (some .int) 8 4 24 D cy ad Ls st [.ref (ad 0), .int x, .int y9] (fun E => exK (kUsed nB ln x y9) [eIOB] E) (fun r u => kUsed nB ln x y9 = 0 ∧ ∃ b : Nat, b < nB ∧ x = nI b ∧ r = xget 4 (ga st (100 + 6 * b + 4)) (xget 6 (ga st (100 + 6 * b + 1)) y9) ∧ u = st) := by
  intro sz
  refine x_ofX sz (by decide +kernel) (Nat.le_of_ble_eq_true rfl) ?_
  intro p e s m args below meth c ls hx hb hr hlocks hT0 C hsz h hl
  have hl : lv_has ls 4 [(0, .ref (ad 0)), (1, .int x), (2, .int y9)] := hl
  obtain ⟨H, eH⟩ : ∃ z, z = s.heap := ⟨_, rfl⟩
  obtain ⟨locs, eL⟩ : ∃ z : List Loc, z = [] := ⟨_, rfl⟩
  rw [← eH, ← eL] at h
  rw [← eH, ← eL]
  clear eH eL
  refine lv_aload_n hx hb dX7_used_0 rfl (lv_at hl 0 rfl) ?_
  refine lv_iload_n hx hb dX7_used_1 rfl (lv_at hl 1 rfl) ?_
  refine cx_X7_215 C h (hL 0 rfl) rfl (c_X7_findBill l hl0 D cy ad Ls st hL nB hnB hrow x) (x_roomX (by omega)) ⟨Nat.le_of_ble_eq_true rfl, Nat.le_of_ble_eq_true rfl⟩ hl.1 (Nat.le_of_ble_eq_true rfl) dX7_used_2 (x_up C hT0 hlocks rfl (fun E z9 => exK_i 0 (by simp only [kUsed, if_true, if_false, true_or, or_true, false_or, or_false, or_self, not_true_eq_false, not_false_eq_true, Bool.false_eq_true, eq_self, and_self, and_true, true_and, false_and, and_false, z9.2]) (by rw [z9.1]; rfl)) ⟨Nat.le_of_ble_eq_true rfl, Nat.le_of_ble_eq_true rfl⟩) (fun r2 u1 H locs hp h => ?_)
  obtain ⟨eu1, b, hbn, eb, er⟩ := hp; rw [eu1] at h; clear eu1 u1; subst er
  have g9 : ¬ bdI nB x := by rw [eb]; exact bdI_nI hbn (by omega)
  have hB := hBL b (by omega)
  have hb33 : b < 33 := by omega
  obtain ⟨hn6, hcn⟩ := hln b (by omega)
  obtain ⟨nb, enb⟩ : ∃ z, z = ln b := ⟨_, rfl⟩
  rw [← enb] at hn6 hcn
  refine x_topref (q := ad (100 + 6 * b)) rfl ?_
  refine lv_astore_n (lv' := [(3, .ref (ad (100 + 6 * b))), (0, .ref (ad 0)), (1, .int x), (2, .int y9)]) hx hb dX7_used_5 rfl hl (by decide) rfl (fun ls hl => ?_)
  refine lv_aload_n hx hb dX7_used_6 rfl (lv_at hl 0 rfl) ?_
  refine lv_iload_n hx hb dX7_used_7 rfl (lv_at hl 3 rfl) ?_
  refine cl_X7_166 C h (show 100 + 6 * b ∈ Ls from hB 0 (by decide)) (kd_b0 hb33) (c_X0_hasLine l D cy ad Ls st hb33 hB nb hn6 hcn y9) (x_roomX (by omega)) ⟨Nat.le_of_ble_eq_true rfl, Nat.le_of_ble_eq_true rfl⟩ hl.1 (Nat.le_of_ble_eq_true rfl) dX7_used_8 (fun r4 u3 H locs hp h => ?_)
  obtain ⟨er4, eu3⟩ := hp; rw [eu3] at h; clear eu3 u3; refine x_topi er4 ?_; clear er4 r4
  refine x_ifb_ne (tgt := 24) hx hb dX7_used_11 (by decide) (fun c11 => ?_) (fun c11 => ?_)
  · refine lv_aload_n hx hb dX7_used_24 rfl (lv_at hl 0 rfl) ?_
    refine gf_X7_195 C h (show 100 + 6 * b ∈ Ls from hB 0 (by decide)) (kd_b0 hb33) (k2 := (100 + 6 * b + 4)) rfl dX7_used_25 ?_
    refine lv_aload_n hx hb dX7_used_28 rfl (lv_at hl 0 rfl) ?_
    refine gf_X7_231 C h (show 100 + 6 * b ∈ Ls from hB 0 (by decide)) (kd_b0 hb33) (k2 := (100 + 6 * b + 1)) rfl dX7_used_29 ?_
    refine lv_iload_n hx hb dX7_used_32 rfl (lv_at hl 3 rfl) ?_
    refine cl_X7_144 C h (c_X7_get l D cy ad Ls st (hB 1 (by decide)) (n := 6) (kd_b1 hb33) (by decide) y9) (x_roomX (by omega)) ⟨Nat.le_of_ble_eq_true rfl, Nat.le_of_ble_eq_true rfl⟩ hl.1 (Nat.le_of_ble_eq_true rfl) dX7_used_33 (fun r6 u5 H locs hp h => ?_)
    obtain ⟨er6, eu5⟩ := hp; rw [eu5] at h; clear eu5 u5; refine x_topi er6 ?_; clear er6 r6
    refine cl_X7_144 C h (c_X7_get l D cy ad Ls st (hB 4 (by decide)) (n := 4) (kd_b4 hb33) (by decide) (xget 6 (ga st (100 + 6 * b + 1)) y9)) (x_roomX (by omega)) ⟨Nat.le_of_ble_eq_true rfl, Nat.le_of_ble_eq_true rfl⟩ hl.1 (Nat.le_of_ble_eq_true rfl) dX7_used_36 (fun r8 u7 H locs hp h => ?_)
    obtain ⟨er8, eu7⟩ := hp; rw [eu7] at h; clear eu7 u7; refine x_topi er8 ?_; clear er8 r8
    exact x_iretX C hr hlocks h (Nat.le_of_ble_eq_true rfl) (Nat.le_of_ble_eq_true rfl) ⟨by rw [kUsed, if_neg g9, eb, nI_clamp (by omega), ← enb]; exact if_pos (of_decide_eq_true c11), b, hbn, eb, rfl, rfl⟩ dX7_used_39
  · exact x_thr C h hl0 hT0 hlocks th_IOB (List.mem_of_getElem? (i := 14) rfl) hl.1 ⟨Nat.le_of_ble_eq_true rfl, Nat.le_of_ble_eq_true rfl⟩ ⟨Nat.le_of_ble_eq_true rfl, Nat.le_of_ble_eq_true rfl⟩ ⟨Nat.le_of_ble_eq_true rfl, Nat.le_of_ble_eq_true rfl⟩ rfl (exK_i 0 (by rw [kUsed, if_neg g9, eb, nI_clamp (by omega), ← enb]; exact if_neg (of_decide_eq_false c11)) rfl) dX7_used_14 dX7_used_17 dX7_used_18 dX7_used_20 dX7_used_23

set_option maxHeartbeats 4000000 in
set_option maxRecDepth 100000 in
theorem c_X7_invoice (l : Launch) (hl0 : l.stackTraces = false) (D : va_G) (cy : Nat → ClassId) (ad : Nat → Nat) (Ls : List Nat) (st : XS) (hL : ∀ k, xC k = true → k ∈ Ls) (nB : Nat) (hnB : nB ≤ 30) (hrow : ∀ i, i < 30 → gb st 9 i = if i < nB then some (100 + 6 * i) else none) (hBL : ∀ b, b ≤ nB → ∀ j, j < 6 → 100 + 6 * b + j ∈ Ls) (ln : Nat → Nat) (hln : ∀ b, b ≤ nB → ln b ≤ 6 ∧ gi st 3 (100 + 6 * b) = nI (ln b)) (x w9 : Int32) : xXi l yX7_invoice cX7_invoice 4 (some .int) 8 4 24 D cy ad Ls st [.ref (ad 0), .int x, .int w9] (fun E => exK (kInv nB x w9) [eIOB, eIAE] E) (fun r u => kInv nB x w9 = 0 ∧ ∃ b : Nat, b < nB ∧ x = nI b ∧ r = invS st b (ln b) w9 ∧ u = st) := by
  intro sz
  refine x_ofX sz (by decide +kernel) (Nat.le_of_ble_eq_true rfl) ?_
  intro p e s m args below meth c ls hx hb hr hlocks hT0 C hsz h hl
  have hl : lv_has ls 4 [(0, .ref (ad 0)), (1, .int x), (2, .int w9)] := hl
  obtain ⟨H, eH⟩ : ∃ z, z = s.heap := ⟨_, rfl⟩
  obtain ⟨locs, eL⟩ : ∃ z : List Loc, z = [] := ⟨_, rfl⟩
  rw [← eH, ← eL] at h
  rw [← eH, ← eL]
  clear eH eL
  refine lv_aload_n hx hb dX7_invoice_0 rfl (lv_at hl 0 rfl) ?_
  refine lv_iload_n hx hb dX7_invoice_1 rfl (lv_at hl 1 rfl) ?_
  refine cx_X7_215 C h (hL 0 rfl) rfl (c_X7_findBill l hl0 D cy ad Ls st hL nB hnB hrow x) (x_roomX (by omega)) ⟨Nat.le_of_ble_eq_true rfl, Nat.le_of_ble_eq_true rfl⟩ hl.1 (Nat.le_of_ble_eq_true rfl) dX7_invoice_2 (x_up C hT0 hlocks rfl (fun E z9 => exK_i 0 (by simp only [kInv, if_true, if_false, true_or, or_true, false_or, or_false, or_self, not_true_eq_false, not_false_eq_true, Bool.false_eq_true, eq_self, and_self, and_true, true_and, false_and, and_false, z9.2]) (by rw [z9.1]; rfl)) ⟨Nat.le_of_ble_eq_true rfl, Nat.le_of_ble_eq_true rfl⟩) (fun r2 u1 H locs hp h => ?_)
  obtain ⟨eu1, b, hbn, eb, er⟩ := hp; rw [eu1] at h; clear eu1 u1; subst er
  have g9 : ¬ bdI nB x := by rw [eb]; exact bdI_nI hbn (by omega)
  have hB := hBL b (by omega)
  have hb33 : b < 33 := by omega
  obtain ⟨hn6, hcn⟩ := hln b (by omega)
  obtain ⟨nb, enb⟩ : ∃ z, z = ln b := ⟨_, rfl⟩
  rw [← enb] at hn6 hcn
  refine x_topref (q := ad (100 + 6 * b)) rfl ?_
  refine lv_astore_n (lv' := [(3, .ref (ad (100 + 6 * b))), (0, .ref (ad 0)), (1, .int x), (2, .int w9)]) hx hb dX7_invoice_5 rfl hl (by decide) rfl (fun ls hl => ?_)
  refine lv_iload_n hx hb dX7_invoice_6 rfl (lv_at hl 3 rfl) ?_
  by_cases g7_0 : w9 = nI 0
  · refine x_topi g7_0 ?_
    refine lv_tableIn (tgt := 52) (off := 45) hx hb dX7_invoice_7 (by decide) (by decide) (by decide) (by decide) ?_
    refine lv_aload_n hx hb dX7_invoice_52 rfl (lv_at hl 0 rfl) ?_
    refine gf_X7_183 C h (show 100 + 6 * b ∈ Ls from hB 0 (by decide)) (kd_b0 hb33) dX7_invoice_53 ?_
    exact x_iretX C hr hlocks h (Nat.le_of_ble_eq_true rfl) (Nat.le_of_ble_eq_true rfl) ⟨by simp only [kInv, g9, g7_0, if_true, if_false, true_or, or_true, false_or, or_false, or_self, not_true_eq_false, not_false_eq_true, Bool.false_eq_true, eq_self, and_self, and_true, true_and, false_and, and_false], b, hbn, eb, by rw [g7_0, ← enb]; rfl, rfl⟩ dX7_invoice_56
  by_cases g7_1 : w9 = nI 1
  · refine x_topi g7_1 ?_
    refine lv_tableIn (tgt := 57) (off := 50) hx hb dX7_invoice_7 (by decide) (by decide) (by decide) (by decide) ?_
    refine lv_aload_n hx hb dX7_invoice_57 rfl (lv_at hl 0 rfl) ?_
    refine gf_X7_186 C h (show 100 + 6 * b ∈ Ls from hB 0 (by decide)) (kd_b0 hb33) dX7_invoice_58 ?_
    exact x_iretX C hr hlocks h (Nat.le_of_ble_eq_true rfl) (Nat.le_of_ble_eq_true rfl) ⟨by simp only [kInv, g9, g7_1, if_true, if_false, true_or, or_true, false_or, or_false, or_self, not_true_eq_false, not_false_eq_true, Bool.false_eq_true, eq_self, and_self, and_true, true_and, false_and, and_false], b, hbn, eb, by rw [g7_1, ← enb]; rfl, rfl⟩ dX7_invoice_61
  by_cases g7_2 : w9 = nI 2
  · refine x_topi g7_2 ?_
    refine lv_tableIn (tgt := 62) (off := 55) hx hb dX7_invoice_7 (by decide) (by decide) (by decide) (by decide) ?_
    refine lv_aload_n hx hb dX7_invoice_62 rfl (lv_at hl 0 rfl) ?_
    refine gf_X7_157 C h (show 100 + 6 * b ∈ Ls from hB 0 (by decide)) (kd_b0 hb33) dX7_invoice_63 ?_
    refine x_topi hcn ?_
    exact x_iretX C hr hlocks h (Nat.le_of_ble_eq_true rfl) (Nat.le_of_ble_eq_true rfl) ⟨by simp only [kInv, g9, g7_2, if_true, if_false, true_or, or_true, false_or, or_false, or_self, not_true_eq_false, not_false_eq_true, Bool.false_eq_true, eq_self, and_self, and_true, true_and, false_and, and_false], b, hbn, eb, by rw [g7_2, ← enb]; rfl, rfl⟩ dX7_invoice_66
  by_cases g7_3 : w9 = nI 3
  · refine x_topi g7_3 ?_
    refine lv_tableIn (tgt := 67) (off := 60) hx hb dX7_invoice_7 (by decide) (by decide) (by decide) (by decide) ?_
    refine lv_aload_n hx hb dX7_invoice_67 rfl (lv_at hl 0 rfl) ?_
    refine cl_X7_219 C h (show 100 + 6 * b ∈ Ls from hB 0 (by decide)) (kd_b0 hb33) (c_X0_sumOfAmounts l D cy ad Ls st hb33 hB nb hn6 hcn) (x_roomX (by omega)) ⟨Nat.le_of_ble_eq_true rfl, Nat.le_of_ble_eq_true rfl⟩ hl.1 (Nat.le_of_ble_eq_true rfl) dX7_invoice_68 (fun r4 u3 H locs hp h => ?_)
    obtain ⟨er4, eu3⟩ := hp; rw [eu3] at h; clear eu3 u3; refine x_topi er4 ?_; clear er4 r4
    exact x_iretX C hr hlocks h (Nat.le_of_ble_eq_true rfl) (Nat.le_of_ble_eq_true rfl) ⟨by simp only [kInv, g9, g7_3, if_true, if_false, true_or, or_true, false_or, or_false, or_self, not_true_eq_false, not_false_eq_true, Bool.false_eq_true, eq_self, and_self, and_true, true_and, false_and, and_false], b, hbn, eb, by rw [g7_3, ← enb]; rfl, rfl⟩ dX7_invoice_71
  by_cases g7_4 : w9 = nI 4
  · refine x_topi g7_4 ?_
    refine lv_tableIn (tgt := 72) (off := 65) hx hb dX7_invoice_7 (by decide) (by decide) (by decide) (by decide) ?_
    refine lv_aload_n hx hb dX7_invoice_72 rfl (lv_at hl 0 rfl) ?_
    refine gf_X7_212 C h (show 100 + 6 * b ∈ Ls from hB 0 (by decide)) (kd_b0 hb33) dX7_invoice_73 ?_
    exact x_iretX C hr hlocks h (Nat.le_of_ble_eq_true rfl) (Nat.le_of_ble_eq_true rfl) ⟨by simp only [kInv, g9, g7_4, if_true, if_false, true_or, or_true, false_or, or_false, or_self, not_true_eq_false, not_false_eq_true, Bool.false_eq_true, eq_self, and_self, and_true, true_and, false_and, and_false], b, hbn, eb, by rw [g7_4, ← enb]; rfl, rfl⟩ dX7_invoice_76
  by_cases g7_5 : w9 = nI 5
  · refine x_topi g7_5 ?_
    refine lv_tableIn (tgt := 77) (off := 70) hx hb dX7_invoice_7 (by decide) (by decide) (by decide) (by decide) ?_
    refine lv_aload_n hx hb dX7_invoice_77 rfl (lv_at hl 0 rfl) ?_
    refine cl_X7_222 C h (show 100 + 6 * b ∈ Ls from hB 0 (by decide)) (kd_b0 hb33) (c_X0_taxWithNotes l D cy ad Ls st hb33 hB) (x_roomX (by omega)) ⟨Nat.le_of_ble_eq_true rfl, Nat.le_of_ble_eq_true rfl⟩ hl.1 (Nat.le_of_ble_eq_true rfl) dX7_invoice_78 (fun r6 u5 H locs hp h => ?_)
    obtain ⟨er6, eu5⟩ := hp; rw [eu5] at h; clear eu5 u5; refine x_topi er6 ?_; clear er6 r6
    exact x_iretX C hr hlocks h (Nat.le_of_ble_eq_true rfl) (Nat.le_of_ble_eq_true rfl) ⟨by simp only [kInv, g9, g7_5, if_true, if_false, true_or, or_true, false_or, or_false, or_self, not_true_eq_false, not_false_eq_true, Bool.false_eq_true, eq_self, and_self, and_true, true_and, false_and, and_false], b, hbn, eb, by rw [g7_5, ← enb]; rfl, rfl⟩ dX7_invoice_81
  by_cases g7_6 : w9 = nI 6
  · refine x_topi g7_6 ?_
    refine lv_tableIn (tgt := 82) (off := 75) hx hb dX7_invoice_7 (by decide) (by decide) (by decide) (by decide) ?_
    refine lv_aload_n hx hb dX7_invoice_82 rfl (lv_at hl 0 rfl) ?_
    refine gf_X7_189 C h (show 100 + 6 * b ∈ Ls from hB 0 (by decide)) (kd_b0 hb33) dX7_invoice_83 ?_
    exact x_iretX C hr hlocks h (Nat.le_of_ble_eq_true rfl) (Nat.le_of_ble_eq_true rfl) ⟨by simp only [kInv, g9, g7_6, if_true, if_false, true_or, or_true, false_or, or_false, or_self, not_true_eq_false, not_false_eq_true, Bool.false_eq_true, eq_self, and_self, and_true, true_and, false_and, and_false], b, hbn, eb, by rw [g7_6, ← enb]; rfl, rfl⟩ dX7_invoice_86
  by_cases g7_7 : w9 = nI 7
  · refine x_topi g7_7 ?_
    refine lv_tableIn (tgt := 87) (off := 80) hx hb dX7_invoice_7 (by decide) (by decide) (by decide) (by decide) ?_
    refine lv_aload_n hx hb dX7_invoice_87 rfl (lv_at hl 0 rfl) ?_
    refine gf_X7_192 C h (show 100 + 6 * b ∈ Ls from hB 0 (by decide)) (kd_b0 hb33) dX7_invoice_88 ?_
    exact x_iretX C hr hlocks h (Nat.le_of_ble_eq_true rfl) (Nat.le_of_ble_eq_true rfl) ⟨by simp only [kInv, g9, g7_7, if_true, if_false, true_or, or_true, false_or, or_false, or_self, not_true_eq_false, not_false_eq_true, Bool.false_eq_true, eq_self, and_self, and_true, true_and, false_and, and_false], b, hbn, eb, by rw [g7_7, ← enb]; rfl, rfl⟩ dX7_invoice_91
  refine x_tsw (tgt := 92) hx hb dX7_invoice_7 (by decide) (by decide) ?_ ?_
  · intro i hi; rcases (show i = 0 ∨ i = 1 ∨ i = 2 ∨ i = 3 ∨ i = 4 ∨ i = 5 ∨ i = 6 ∨ i = 7 by have hi9 : i < 8 := hi; omega) with rfl | rfl | rfl | rfl | rfl | rfl | rfl | rfl
    all_goals first | (intro hne; exact absurd rfl hne) | (intro _ q9; first | exact g7_0 (x_toInt q9 (by decide)) | exact g7_1 (x_toInt q9 (by decide)) | exact g7_2 (x_toInt q9 (by decide)) | exact g7_3 (x_toInt q9 (by decide)) | exact g7_4 (x_toInt q9 (by decide)) | exact g7_5 (x_toInt q9 (by decide)) | exact g7_6 (x_toInt q9 (by decide)) | exact g7_7 (x_toInt q9 (by decide)))
  exact x_thr C h hl0 hT0 hlocks th_IAE (List.mem_of_getElem? (i := 17) rfl) hl.1 ⟨Nat.le_of_ble_eq_true rfl, Nat.le_of_ble_eq_true rfl⟩ ⟨Nat.le_of_ble_eq_true rfl, Nat.le_of_ble_eq_true rfl⟩ ⟨Nat.le_of_ble_eq_true rfl, Nat.le_of_ble_eq_true rfl⟩ rfl (exK_i 1 (by simp only [kInv, g9, g7_0, g7_1, g7_2, g7_3, g7_4, g7_5, g7_6, g7_7, if_true, if_false, true_or, or_true, false_or, or_false, or_self, not_true_eq_false, not_false_eq_true, Bool.false_eq_true, eq_self, and_self, and_true, true_and, false_and, and_false]) rfl) dX7_invoice_92 dX7_invoice_95 dX7_invoice_96 dX7_invoice_98 dX7_invoice_101

set_option maxHeartbeats 4000000 in
set_option maxRecDepth 100000 in
theorem c_X7_line (l : Launch) (hl0 : l.stackTraces = false) (D : va_G) (cy : Nat → ClassId) (ad : Nat → Nat) (Ls : List Nat) (st : XS) (hL : ∀ k, xC k = true → k ∈ Ls) (b : Nat) (hb33 : b < 33) (hB : ∀ j, j < 6 → 100 + 6 * b + j ∈ Ls) (nb : Nat) (hn6 : nb ≤ 6) (hcn : gi st 3 (100 + 6 * b) = nI nb) (hgp8 : gp st 8 0 = some (100 + 6 * b)) (k9 q9 p9 : Int32) : xXi l yX7_line cX7_line 4 (some .int) 8 4 24 D cy ad Ls st [.ref (ad 0), .int k9, .int q9, .int p9] (fun E => exK (kLine nb k9 q9 p9) [eIOB, eIAE, eISE] E) (fun r u => kLine nb k9 q9 p9 = 0 ∧ r = nI (nb + 1) ∧ u = si (sa (sa (sa st (100 + 6 * b + 1) (upd (bK st b) nb k9)) (100 + 6 * b + 2) (upd (bQ st b) nb q9)) (100 + 6 * b + 3) (upd (bP st b) nb p9)) 3 (100 + 6 * b) (nI (nb + 1))) := by
  intro sz
  refine x_ofX sz (by decide +kernel) (Nat.le_of_ble_eq_true rfl) ?_
  intro p e s m args below meth c ls hx hb hr hlocks hT0 C hsz h hl
  have hl : lv_has ls 4 [(0, .ref (ad 0)), (1, .int k9), (2, .int q9), (3, .int p9)] := hl
  obtain ⟨H, eH⟩ : ∃ z, z = s.heap := ⟨_, rfl⟩
  obtain ⟨locs, eL⟩ : ∃ z : List Loc, z = [] := ⟨_, rfl⟩
  rw [← eH, ← eL] at h
  rw [← eH, ← eL]
  clear eH eL
  refine lv_iload_n hx hb dX7_line_0 rfl (lv_at hl 1 rfl) ?_
  refine cx_X7_122 C h (c_X7_checkKind l hl0 D cy ad Ls st k9) (x_roomX (by omega)) ⟨Nat.le_of_ble_eq_true rfl, Nat.le_of_ble_eq_true rfl⟩ hl.1 (Nat.le_of_ble_eq_true rfl) dX7_line_1 (x_up C hT0 hlocks rfl (fun E z9 => exK_i 0 (by simp only [kLine, if_true, if_false, true_or, or_true, false_or, or_false, or_self, not_true_eq_false, not_false_eq_true, Bool.false_eq_true, eq_self, and_self, and_true, true_and, false_and, and_false, z9.2]) (by rw [z9.1]; rfl)) ⟨Nat.le_of_ble_eq_true rfl, Nat.le_of_ble_eq_true rfl⟩) (fun u1 H locs hp h => ?_)
  obtain ⟨eu1, g3⟩ := hp; rw [eu1] at h; clear eu1 u1
  refine lv_iload_n hx hb dX7_line_4 rfl (lv_at hl 2 rfl) ?_
  refine lv_iconst (v := nI 1) hx hb dX7_line_5 (by decide) ?_
  refine lv_icmp_lt (tgt := 27) hx hb dX7_line_6 (by decide) (fun c6 => ?_) (fun c6 => ?_)
  · exact x_thr C h hl0 hT0 hlocks th_IAE (List.mem_of_getElem? (i := 12) rfl) hl.1 ⟨Nat.le_of_ble_eq_true rfl, Nat.le_of_ble_eq_true rfl⟩ ⟨Nat.le_of_ble_eq_true rfl, Nat.le_of_ble_eq_true rfl⟩ ⟨Nat.le_of_ble_eq_true rfl, Nat.le_of_ble_eq_true rfl⟩ rfl (exK_i 1 (by simp only [kLine, if_true, if_false, true_or, or_true, false_or, or_false, or_self, not_true_eq_false, not_false_eq_true, Bool.false_eq_true, eq_self, and_self, and_true, true_and, false_and, and_false, g3, c6]) rfl) dX7_line_27 dX7_line_30 dX7_line_31 dX7_line_33 dX7_line_36
  · refine lv_iload_n hx hb dX7_line_9 rfl (lv_at hl 2 rfl) ?_
    refine lv_bipush (v := nI 99) hx hb dX7_line_10 (by decide) ?_
    refine lv_icmp_gt (tgt := 27) hx hb dX7_line_12 (by decide) (fun c12 => ?_) (fun c12 => ?_)
    · exact x_thr C h hl0 hT0 hlocks th_IAE (List.mem_of_getElem? (i := 12) rfl) hl.1 ⟨Nat.le_of_ble_eq_true rfl, Nat.le_of_ble_eq_true rfl⟩ ⟨Nat.le_of_ble_eq_true rfl, Nat.le_of_ble_eq_true rfl⟩ ⟨Nat.le_of_ble_eq_true rfl, Nat.le_of_ble_eq_true rfl⟩ rfl (exK_i 1 (by simp only [kLine, if_true, if_false, true_or, or_true, false_or, or_false, or_self, not_true_eq_false, not_false_eq_true, Bool.false_eq_true, eq_self, and_self, and_true, true_and, false_and, and_false, g3, c6, c12]) rfl) dX7_line_27 dX7_line_30 dX7_line_31 dX7_line_33 dX7_line_36
    · refine lv_iload_n hx hb dX7_line_15 rfl (lv_at hl 3 rfl) ?_
      refine lv_iconst (v := nI 1) hx hb dX7_line_16 (by decide) ?_
      refine lv_icmp_lt (tgt := 27) hx hb dX7_line_17 (by decide) (fun c17 => ?_) (fun c17 => ?_)
      · exact x_thr C h hl0 hT0 hlocks th_IAE (List.mem_of_getElem? (i := 12) rfl) hl.1 ⟨Nat.le_of_ble_eq_true rfl, Nat.le_of_ble_eq_true rfl⟩ ⟨Nat.le_of_ble_eq_true rfl, Nat.le_of_ble_eq_true rfl⟩ ⟨Nat.le_of_ble_eq_true rfl, Nat.le_of_ble_eq_true rfl⟩ rfl (exK_i 1 (by simp only [kLine, if_true, if_false, true_or, or_true, false_or, or_false, or_self, not_true_eq_false, not_false_eq_true, Bool.false_eq_true, eq_self, and_self, and_true, true_and, false_and, and_false, g3, c6, c12, c17]) rfl) dX7_line_27 dX7_line_30 dX7_line_31 dX7_line_33 dX7_line_36
      · refine lv_iload_n hx hb dX7_line_20 rfl (lv_at hl 3 rfl) ?_
        refine lv_sipush (v := nI 9999) hx hb dX7_line_21 (by decide) ?_
        refine lv_icmp_le (tgt := 37) hx hb dX7_line_24 (by decide) (fun c24 => ?_) (fun c24 => ?_)
        · refine lv_aload_n hx hb dX7_line_37 rfl (lv_at hl 0 rfl) ?_
          refine gf_X7_46 C h (hL 0 rfl) rfl dX7_line_38 ?_
          refine x_topref (by rw [hgp8]; rfl) ?_
          refine gf_X7_157 C h (show 100 + 6 * b ∈ Ls from hB 0 (by decide)) (kd_b0 hb33) dX7_line_41 ?_
          refine x_topi hcn ?_
          refine lv_bipush (v := nI 6) hx hb dX7_line_44 (by decide) ?_
          refine x_icmpN_lt (tgt := 59) hx hb dX7_line_46 (by decide) (by omega) (by omega) (fun c46 => ?_) (fun c46 => ?_)
          · refine lv_aload_n hx hb dX7_line_59 rfl (lv_at hl 0 rfl) ?_
            refine gf_X7_46 C h (hL 0 rfl) rfl dX7_line_60 ?_
            refine x_topref (by rw [hgp8]; rfl) ?_
            refine lv_iload_n hx hb dX7_line_63 rfl (lv_at hl 1 rfl) ?_
            refine lv_iload_n hx hb dX7_line_64 rfl (lv_at hl 2 rfl) ?_
            refine lv_iload_n hx hb dX7_line_65 rfl (lv_at hl 3 rfl) ?_
            refine cl_X7_162 C h (show 100 + 6 * b ∈ Ls from hB 0 (by decide)) (kd_b0 hb33) (c_X0_addLine l D cy ad Ls st hb33 hB nb (by omega) hcn k9 q9 p9) (x_roomX (by omega)) ⟨Nat.le_of_ble_eq_true rfl, Nat.le_of_ble_eq_true rfl⟩ hl.1 (Nat.le_of_ble_eq_true rfl) dX7_line_66 (fun u4 H locs hp h => ?_)
            have eu4 := hp; clear hp
            have hq8 : gp u4 8 0 = some (100 + 6 * b) := by rw [eu4]; exact hgp8
            have hcn2 : gi u4 3 (100 + 6 * b) = nI (nb + 1) := by rw [eu4]; exact (gi_si ..).trans (if_pos ⟨rfl, rfl⟩)
            refine lv_aload_n hx hb dX7_line_69 rfl (lv_at hl 0 rfl) ?_
            refine gf_X7_46 C h (hL 0 rfl) rfl dX7_line_70 ?_
            refine x_topref (by rw [hq8]; rfl) ?_
            refine gf_X7_157 C h (show 100 + 6 * b ∈ Ls from hB 0 (by decide)) (kd_b0 hb33) dX7_line_73 ?_
            refine x_topi hcn2 ?_
            exact x_iretX C hr hlocks h (Nat.le_of_ble_eq_true rfl) (Nat.le_of_ble_eq_true rfl) ⟨by simp only [kLine, if_true, if_false, true_or, or_true, false_or, or_false, or_self, not_true_eq_false, not_false_eq_true, Bool.false_eq_true, eq_self, and_self, and_true, true_and, false_and, and_false, g3, c6, c12, c17, c24, c46, Nat.not_le.mpr c46], rfl, eu4⟩ dX7_line_76
          · exact x_thr C h hl0 hT0 hlocks th_ISE (List.mem_of_getElem? (i := 13) rfl) hl.1 ⟨Nat.le_of_ble_eq_true rfl, Nat.le_of_ble_eq_true rfl⟩ ⟨Nat.le_of_ble_eq_true rfl, Nat.le_of_ble_eq_true rfl⟩ ⟨Nat.le_of_ble_eq_true rfl, Nat.le_of_ble_eq_true rfl⟩ rfl (exK_i 2 (by simp only [kLine, if_true, if_false, true_or, or_true, false_or, or_false, or_self, not_true_eq_false, not_false_eq_true, Bool.false_eq_true, eq_self, and_self, and_true, true_and, false_and, and_false, g3, c6, c12, c17, c24, c46, Nat.not_lt.mpr c46]) rfl) dX7_line_49 dX7_line_52 dX7_line_53 dX7_line_55 dX7_line_58
        · exact x_thr C h hl0 hT0 hlocks th_IAE (List.mem_of_getElem? (i := 12) rfl) hl.1 ⟨Nat.le_of_ble_eq_true rfl, Nat.le_of_ble_eq_true rfl⟩ ⟨Nat.le_of_ble_eq_true rfl, Nat.le_of_ble_eq_true rfl⟩ ⟨Nat.le_of_ble_eq_true rfl, Nat.le_of_ble_eq_true rfl⟩ rfl (exK_i 1 (by simp only [kLine, if_true, if_false, true_or, or_true, false_or, or_false, or_self, not_true_eq_false, not_false_eq_true, Bool.false_eq_true, eq_self, and_self, and_true, true_and, false_and, and_false, g3, c6, c12, c17, c24]) rfl) dX7_line_27 dX7_line_30 dX7_line_31 dX7_line_33 dX7_line_36
