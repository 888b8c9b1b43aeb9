/-! ===== the reference: its simple methods ===== -/
def inR (x lo hi : Int32) : Bool := decide (¬ x < lo ∧ ¬ hi < x)
theorem inR_t {x lo hi : Int32} (h : inR x lo hi = true) : ¬ x < lo ∧ ¬ hi < x := of_decide_eq_true h
theorem inR_f {x lo hi : Int32} (h : inR x lo hi = false) : x < lo ∨ hi < x := by
  have := of_decide_eq_false h
  by_cases h1 : x < lo
  · exact Or.inl h1
  · exact Or.inr (Decidable.not_not.mp fun q => this ⟨h1, q⟩)
theorem inR_j {x : Int32} {n : Nat} (h : inR x (nI 0) (nI n) = true) (hn : n < 2 ^ 31) : ∃ j : Nat, j ≤ n ∧ x = nI j := by
  obtain ⟨h1, h2⟩ := inR_t h
  obtain ⟨j, hj, rfl⟩ := nI_of (x := x) h1
  exact ⟨j, Nat.not_lt.mp fun q => h2 (nI_lt q hj), rfl⟩

def LsM : List Nat := [30, 32, 34, 35, 36, 37, 38, 43, 44, 45, 48, 49, 50, 51, 52, 53, 55, 56, 57, 59, 60, 61, 62, 63, 64, 65, 66, 67, 68, 69, 70, 72, 73, 74]

set_option maxHeartbeats 4000000 in
set_option maxRecDepth 100000 in
theorem c_X8_isIn (l : Launch) (D : va_G) (cy : Nat → ClassId) (ad : Nat → Nat) (Ls : List Nat) (st : XS) (x lo hi : Int32) : xMi l yX8_isIn cX8_isIn 3 (some .boolean) 0 D cy ad Ls st [.int x, .int lo, .int hi] (fun r u => r = bi (inR x lo hi) ∧ u = st) := by
  intro sz
  refine x_of sz (by decide +kernel) (Nat.le_of_ble_eq_true rfl) ?_
  intro p e s m args below meth c ls hx hb hr hlocks C hsz h hl
  have hl : lv_has ls 3 [(0, .int x), (1, .int lo), (2, .int hi)] := hl
  obtain ⟨H, eH⟩ : ∃ z, z = s.heap := ⟨_, rfl⟩
  obtain ⟨locs, eL⟩ : ∃ z : List Loc, z = [] := ⟨_, rfl⟩
  rw [← eH, ← eL] at h
  rw [← eH, ← eL]
  clear eH eL
  refine lv_iload_n hx hb dX8_isIn_0 rfl (lv_at hl 0 rfl) ?_
  refine lv_iload_n hx hb dX8_isIn_1 rfl (lv_at hl 1 rfl) ?_
  refine lv_icmp_lt (tgt := 14) hx hb dX8_isIn_2 (by decide) (fun c2 => ?_) (fun c2 => ?_)
  · refine lv_iconst (v := nI 0) hx hb dX8_isIn_14 (by decide) ?_
    exact x_zret C hr hlocks (by first | rfl | exact bi_zn _ | decide) h ⟨by rw [inR, decide_eq_false (fun q => q.1 c2)]; rfl, rfl⟩ dX8_isIn_15
  · refine lv_iload_n hx hb dX8_isIn_5 rfl (lv_at hl 0 rfl) ?_
    refine lv_iload_n hx hb dX8_isIn_6 rfl (lv_at hl 2 rfl) ?_
    refine lv_icmp_gt (tgt := 14) hx hb dX8_isIn_7 (by decide) (fun c7 => ?_) (fun c7 => ?_)
    · refine lv_iconst (v := nI 0) hx hb dX8_isIn_14 (by decide) ?_
      exact x_zret C hr hlocks (by first | rfl | exact bi_zn _ | decide) h ⟨by rw [inR, decide_eq_false (fun q => q.2 c7)]; rfl, rfl⟩ dX8_isIn_15
    · refine lv_iconst (v := nI 1) hx hb dX8_isIn_10 (by decide) ?_
      refine lv_goto (tgt := 15) hx hb dX8_isIn_11 (by decide) ?_
      exact x_zret C hr hlocks (by first | rfl | exact bi_zn _ | decide) h ⟨by rw [inR, decide_eq_true ⟨c2, c7⟩]; rfl, rfl⟩ dX8_isIn_15

set_option maxHeartbeats 4000000 in
set_option maxRecDepth 100000 in
theorem c_X8_isFour (l : Launch) (D : va_G) (cy : Nat → ClassId) (ad : Nat → Nat) (Ls : List Nat) (st : XS) (x : Int32) : xMi l yX8_isFour cX8_isFour 1 (some .boolean) 1 D cy ad Ls st [.int x] (fun r u => r = bi (inR x (nI 0) (nI 3)) ∧ u = st) := by
  intro sz
  refine x_of sz (by decide +kernel) (Nat.le_of_ble_eq_true rfl) ?_
  intro p e s m args below meth c ls hx hb hr hlocks C hsz h hl
  have hl : lv_has ls 1 [(0, .int x)] := hl
  obtain ⟨H, eH⟩ : ∃ z, z = s.heap := ⟨_, rfl⟩
  obtain ⟨locs, eL⟩ : ∃ z : List Loc, z = [] := ⟨_, rfl⟩
  rw [← eH, ← eL] at h
  rw [← eH, ← eL]
  clear eH eL
  refine lv_iload_n hx hb dX8_isFour_0 rfl (lv_at hl 0 rfl) ?_
  refine lv_iconst (v := nI 0) hx hb dX8_isFour_1 (by decide) ?_
  refine lv_iconst (v := nI 3) hx hb dX8_isFour_2 (by decide) ?_
  refine cl_X8_120 C h (c_X8_isIn l D cy ad Ls st x (nI 0) (nI 3)) (x_room (by omega)) ⟨Nat.zero_le _, Nat.zero_le _⟩ hl.1 (Nat.le_of_ble_eq_true rfl) dX8_isFour_3 (fun r2 u1 H locs hp h => ?_)
  obtain ⟨er2, eu1⟩ := hp; rw [eu1] at h; clear eu1 u1; refine x_topi er2 ?_; clear er2 r2
  exact x_zret C hr hlocks (by first | rfl | exact bi_zn _ | decide) h ⟨rfl, rfl⟩ dX8_isFour_6

set_option maxHeartbeats 4000000 in
set_option maxRecDepth 100000 in
theorem c_X8_isDigit (l : Launch) (D : va_G) (cy : Nat → ClassId) (ad : Nat → Nat) (Ls : List Nat) (st : XS) (x : Int32) : xMi l yX8_isDigit cX8_isDigit 1 (some .boolean) 1 D cy ad Ls st [.int x] (fun r u => r = bi (inR x (nI 48) (nI 57)) ∧ u = st) := by
  intro sz
  refine x_of sz (by decide +kernel) (Nat.le_of_ble_eq_true rfl) ?_
  intro p e s m args below meth c ls hx hb hr hlocks C hsz h hl
  have hl : lv_has ls 1 [(0, .int x)] := hl
  obtain ⟨H, eH⟩ : ∃ z, z = s.heap := ⟨_, rfl⟩
  obtain ⟨locs, eL⟩ : ∃ z : List Loc, z = [] := ⟨_, rfl⟩
  rw [← eH, ← eL] at h
  rw [← eH, ← eL]
  clear eH eL
  refine lv_iload_n hx hb dX8_isDigit_0 rfl (lv_at hl 0 rfl) ?_
  refine lv_bipush (v := nI 48) hx hb dX8_isDigit_1 (by decide) ?_
  refine lv_bipush (v := nI 57) hx hb dX8_isDigit_3 (by decide) ?_
  refine cl_X8_120 C h (c_X8_isIn l D cy ad Ls st x (nI 48) (nI 57)) (x_room (by omega)) ⟨Nat.zero_le _, Nat.zero_le _⟩ hl.1 (Nat.le_of_ble_eq_true rfl) dX8_isDigit_5 (fun r2 u1 H locs hp h => ?_)
  obtain ⟨er2, eu1⟩ := hp; rw [eu1] at h; clear eu1 u1; refine x_topi er2 ?_; clear er2 r2
  exact x_zret C hr hlocks (by first | rfl | exact bi_zn _ | decide) h ⟨rfl, rfl⟩ dX8_isDigit_8

set_option maxHeartbeats 4000000 in
set_option maxRecDepth 100000 in
theorem c_X8_rounded (l : Launch) (D : va_G) (cy : Nat → ClassId) (ad : Nat → Nat) (Ls : List Nat) (st : XS) (x : Int32) : xMi l yX8_rounded cX8_rounded 1 (some .int) 0 D cy ad Ls st [.int x] (fun r u => r = hun x ∧ u = st) := by
  intro sz
  refine x_of sz (by decide +kernel) (Nat.le_of_ble_eq_true rfl) ?_
  intro p e s m args below meth c ls hx hb hr hlocks C hsz h hl
  have hl : lv_has ls 1 [(0, .int x)] := hl
  obtain ⟨H, eH⟩ : ∃ z, z = s.heap := ⟨_, rfl⟩
  obtain ⟨locs, eL⟩ : ∃ z : List Loc, z = [] := ⟨_, rfl⟩
  rw [← eH, ← eL] at h
  rw [← eH, ← eL]
  clear eH eL
  refine lv_iload_n hx hb dX8_rounded_0 rfl (lv_at hl 0 rfl) ?_
  refine lv_bipush (v := nI 50) hx hb dX8_rounded_1 (by decide) ?_
  refine lv_iadd hx hb dX8_rounded_3 ?_
  refine lv_bipush (v := nI 100) hx hb dX8_rounded_4 (by decide) ?_
  refine lv_idiv hx hb dX8_rounded_6 (by decide) ?_
  exact x_iret C hr hlocks h ⟨rfl, rfl⟩ dX8_rounded_7

set_option maxHeartbeats 4000000 in
set_option maxRecDepth 100000 in
theorem c_X8_thrown (l : Launch) (D : va_G) (cy : Nat → ClassId) (ad : Nat → Nat) (Ls : List Nat) (st : XS) (hM : ∀ k, k ∈ LsM → k ∈ Ls) : xMi l yX8_thrown cX8_thrown 1 (some .int) 0 D cy ad Ls st [.ref (ad 30)] (fun r u => r = gi st 0 30 ∧ u = st) := by
  intro sz
  refine x_of sz (by decide +kernel) (Nat.le_of_ble_eq_true rfl) ?_
  intro p e s m args below meth c ls hx hb hr hlocks C hsz h hl
  have hl : lv_has ls 1 [(0, .ref (ad 30))] := hl
  obtain ⟨H, eH⟩ : ∃ z, z = s.heap := ⟨_, rfl⟩
  obtain ⟨locs, eL⟩ : ∃ z : List Loc, z = [] := ⟨_, rfl⟩
  rw [← eH, ← eL] at h
  rw [← eH, ← eL]
  clear eH eL
  refine lv_aload_n hx hb dX8_thrown_0 rfl (lv_at hl 0 rfl) ?_
  refine gf_X8_110 C h (hM 30 (by decide)) rfl dX8_thrown_1 ?_
  exact x_iret C hr hlocks h ⟨rfl, rfl⟩ dX8_thrown_4

set_option maxHeartbeats 4000000 in
set_option maxRecDepth 100000 in
theorem c_X8_notes (l : Launch) (D : va_G) (cy : Nat → ClassId) (ad : Nat → Nat) (Ls : List Nat) (st : XS) (hM : ∀ k, k ∈ LsM → k ∈ Ls) : xMi l yX8_notes cX8_notes 1 (some .int) 0 D cy ad Ls st [.ref (ad 30)] (fun r u => r = gi st 41 30 ∧ u = si st 0 30 (nI 0)) := by
  intro sz
  refine x_of sz (by decide +kernel) (Nat.le_of_ble_eq_true rfl) ?_
  intro p e s m args below meth c ls hx hb hr hlocks C hsz h hl
  have hl : lv_has ls 1 [(0, .ref (ad 30))] := hl
  obtain ⟨H, eH⟩ : ∃ z, z = s.heap := ⟨_, rfl⟩
  obtain ⟨locs, eL⟩ : ∃ z : List Loc, z = [] := ⟨_, rfl⟩
  rw [← eH, ← eL] at h
  rw [← eH, ← eL]
  clear eH eL
  refine lv_aload_n hx hb dX8_notes_0 rfl (lv_at hl 0 rfl) ?_
  refine lv_iconst (v := nI 0) hx hb dX8_notes_1 (by decide) ?_
  refine pf_X8_110 C h (hM 30 (by decide)) rfl dX8_notes_2 (fun H locs u1 eu1 h => ?_)
  have e2 : gi u1 0 30 = nI 0 := by rw [eu1, gi_si, if_pos ⟨rfl, rfl⟩]
  refine lv_aload_n hx hb dX8_notes_5 rfl (lv_at hl 0 rfl) ?_
  refine gf_X8_219 C h (hM 30 (by decide)) rfl dX8_notes_6 ?_
  exact x_iret C hr hlocks h ⟨by rw [eu1]; rfl, eu1⟩ dX8_notes_9

def kbPass (x : Int32) : Nat := if inR x (nI 1) (nI 99) then 0 else 1

set_option maxHeartbeats 4000000 in
set_option maxRecDepth 100000 in
theorem c_X8_pass (l : Launch) (D : va_G) (cy : Nat → ClassId) (ad : Nat → Nat) (Ls : List Nat) (st : XS) (hM : ∀ k, k ∈ LsM → k ∈ Ls) (x td : Int32) (htd : gi st 16 30 = td) : xMi l yX8_pass cX8_pass 2 (some .int) 1 D cy ad Ls st [.ref (ad 30), .int x] (fun r u => (¬ kbPass x = 0 ∧ r = nI 0 ∧ u = si st 0 30 (nI (kbPass x))) ∨ (kbPass x = 0 ∧ r = td + x ∧ u = si (si st 0 30 (nI 0)) 16 30 (td + x))) := by
  intro sz
  refine x_of sz (by decide +kernel) (Nat.le_of_ble_eq_true rfl) ?_
  intro p e s m args below meth c ls hx hb hr hlocks C hsz h hl
  have hl : lv_has ls 2 [(0, .ref (ad 30)), (1, .int x)] := hl
  obtain ⟨H, eH⟩ : ∃ z, z = s.heap := ⟨_, rfl⟩
  obtain ⟨locs, eL⟩ : ∃ z : List Loc, z = [] := ⟨_, rfl⟩
  rw [← eH, ← eL] at h
  rw [← eH, ← eL]
  clear eH eL
  refine lv_aload_n hx hb dX8_pass_0 rfl (lv_at hl 0 rfl) ?_
  refine lv_iload_n hx hb dX8_pass_1 rfl (lv_at hl 1 rfl) ?_
  refine lv_iconst (v := nI 1) hx hb dX8_pass_2 (by decide) ?_
  refine lv_bipush (v := nI 99) hx hb dX8_pass_3 (by decide) ?_
  refine cl_X8_120 C h (c_X8_isIn l D cy ad Ls st x (nI 1) (nI 99)) (x_room (by omega)) ⟨Nat.zero_le _, Nat.zero_le _⟩ hl.1 (Nat.le_of_ble_eq_true rfl) dX8_pass_5 (fun r2 u1 H locs hp h => ?_)
  obtain ⟨er2, eu1⟩ := hp; rw [eu1] at h; clear eu1 u1; refine x_topi er2 ?_; clear er2 r2
  refine x_ifb_eq (tgt := 15) hx hb dX8_pass_8 (by decide) (fun c8 => ?_) (fun c8 => ?_)
  · refine lv_iconst (v := nI 1) hx hb dX8_pass_15 (by decide) ?_
    refine pf_X8_110 C h (hM 30 (by decide)) rfl dX8_pass_16 (fun H locs u3 eu3 h => ?_)
    have e4 : gi u3 16 30 = td := by rw [eu3, gi_si, if_neg (by omega)]; exact htd
    have e5 : gi u3 0 30 = nI 1 := by rw [eu3, gi_si, if_pos ⟨rfl, rfl⟩]
    refine lv_aload_n hx hb dX8_pass_19 rfl (lv_at hl 0 rfl) ?_
    refine gf_X8_110 C h (hM 30 (by decide)) rfl dX8_pass_20 ?_
    refine x_topi e5 ?_
    refine x_ifN_le (tgt := 28) hx hb dX8_pass_23 (by decide) (by decide) (fun z9 => absurd z9 (by decide)) (fun _ => ?_)
    refine lv_iconst (v := nI 0) hx hb dX8_pass_26 (by decide) ?_
    exact x_iret C hr hlocks h (Or.inl ⟨by rw [show kbPass x = 1 from by simp only [kbPass, if_true, if_false, Bool.not_true, Bool.not_false, Bool.and_true, Bool.true_and, Bool.and_false, Bool.false_and, Bool.or_true, Bool.true_or, Bool.or_false, Bool.false_or, Bool.false_eq_true, eq_self, decide_true, decide_false, c8]]; decide, rfl, by rw [eu3, show kbPass x = 1 from by simp only [kbPass, if_true, if_false, Bool.not_true, Bool.not_false, Bool.and_true, Bool.true_and, Bool.and_false, Bool.false_and, Bool.or_true, Bool.true_or, Bool.or_false, Bool.false_or, Bool.false_eq_true, eq_self, decide_true, decide_false, c8]]⟩) dX8_pass_27
  · refine lv_iconst (v := nI 0) hx hb dX8_pass_11 (by decide) ?_
    refine lv_goto (tgt := 16) hx hb dX8_pass_12 (by decide) ?_
    refine pf_X8_110 C h (hM 30 (by decide)) rfl dX8_pass_16 (fun H locs u6 eu6 h => ?_)
    have e7 : gi u6 16 30 = td := by rw [eu6, gi_si, if_neg (by omega)]; exact htd
    have e8 : gi u6 0 30 = nI 0 := by rw [eu6, gi_si, if_pos ⟨rfl, rfl⟩]
    refine lv_aload_n hx hb dX8_pass_19 rfl (lv_at hl 0 rfl) ?_
    refine gf_X8_110 C h (hM 30 (by decide)) rfl dX8_pass_20 ?_
    refine x_topi e8 ?_
    refine x_ifN_le (tgt := 28) hx hb dX8_pass_23 (by decide) (by decide) (fun _ => ?_) (fun z9 => absurd z9 (by decide))
    refine lv_aload_n hx hb dX8_pass_28 rfl (lv_at hl 0 rfl) ?_
    refine lv_dup hx hb dX8_pass_29 rfl ?_
    refine gf_X8_187 C h (hM 30 (by decide)) rfl dX8_pass_30 ?_
    refine x_topi e7 ?_
    refine lv_iload_n hx hb dX8_pass_33 rfl (lv_at hl 1 rfl) ?_
    refine lv_iadd hx hb dX8_pass_34 ?_
    refine pf_X8_187 C h (hM 30 (by decide)) rfl dX8_pass_35 (fun H locs u9 eu9 h => ?_)
    have e11 : gi u9 0 30 = nI 0 := by rw [eu9, gi_si, if_neg (by omega)]; exact e8
    have e12 : gi u9 16 30 = td + x := by rw [eu9, gi_si, if_pos ⟨rfl, rfl⟩]
    refine lv_aload_n hx hb dX8_pass_38 rfl (lv_at hl 0 rfl) ?_
    refine gf_X8_187 C h (hM 30 (by decide)) rfl dX8_pass_39 ?_
    refine x_topi e12 ?_
    exact x_iret C hr hlocks h (Or.inr ⟨by simp only [kbPass, if_true, if_false, Bool.not_true, Bool.not_false, Bool.and_true, Bool.true_and, Bool.and_false, Bool.false_and, Bool.or_true, Bool.true_or, Bool.or_false, Bool.false_or, Bool.false_eq_true, eq_self, decide_true, decide_false, c8], rfl, by rw [eu9, eu6]⟩) dX8_pass_42

def kbRate (n : Nat) (p k h f : Int32) : Nat := if !(inR p (nI 0) (nI 3) && inR k (nI 0) (nI 3)) then 1 else if !(inR h (nI 0) (nI 100) && inR f (nI 0) (nI 9999)) then 2 else if n = 60 then 3 else 0
def kbTell (p k d : Int32) : Nat := if !(inR p (nI 0) (nI 3) && inR k (nI 0) (nI 3)) then 1 else if !inR d (nI 0) (nI 9999) then 2 else 0
def kbRound (p w : Int32) : Nat := if !inR p (nI 0) (nI 3) then 1 else if !inR w (nI 0) (nI 2) then 2 else 0
def kbClient (c p : Int32) : Nat := if inR c (nI 0) (nI 9) && inR p (nI 0) (nI 3) then 0 else 1
def kbLine (n : Nat) (k q p : Int32) : Nat := if !inR k (nI 0) (nI 3) then 1 else if !(inR q (nI 1) (nI 99) && inR p (nI 1) (nI 9999)) then 2 else if n = 6 then 3 else 0
def kbNote (n : Nat) (i w : Int32) : Nat := if !inR i (nI 0) (nI n - nI 1) then 1 else if !inR w (nI 0) (nI 2) then 2 else 0

set_option maxHeartbeats 4000000 in
set_option maxRecDepth 100000 in
theorem c_X8_rate (l : Launch) (D : va_G) (cy : Nat → ClassId) (ad : Nat → Nat) (Ls : List Nat) (st : XS) (hM : ∀ k, k ∈ LsM → k ∈ Ls) (n : Nat) (hn60 : n ≤ 60) (hn17 : gi st 17 30 = nI n) (p9 k9 h9 f9 : Int32) : xMi l yX8_rate cX8_rate 7 (some .int) 2 D cy ad Ls st [.ref (ad 30), .int p9, .int k9, .int h9, .int f9] (fun r u => (¬ kbRate n p9 k9 h9 f9 = 0 ∧ r = nI 0 ∧ u = si st 0 30 (nI (kbRate n p9 k9 h9 f9))) ∨ (kbRate n p9 k9 h9 f9 = 0 ∧ r = nI n ∧ u = si (sa (sa (sa (sa (si st 0 30 (nI 0)) 48 (upd (ga st 48) n p9)) 49 (upd (ga st 49) n k9)) 50 (upd (ga st 50) n h9)) 51 (upd (ga st 51) n f9)) 17 30 (nI (n + 1)))) := by
  intro sz
  refine x_of sz (by decide +kernel) (Nat.le_of_ble_eq_true rfl) ?_
  intro p e s m args below meth c ls hx hb hr hlocks C hsz h hl
  have hl : lv_has ls 7 [(0, .ref (ad 30)), (1, .int p9), (2, .int k9), (3, .int h9), (4, .int f9)] := hl
  obtain ⟨H, eH⟩ : ∃ z, z = s.heap := ⟨_, rfl⟩
  obtain ⟨locs, eL⟩ : ∃ z : List Loc, z = [] := ⟨_, rfl⟩
  rw [← eH, ← eL] at h
  rw [← eH, ← eL]
  clear eH eL
  refine lv_iload_n hx hb dX8_rate_0 rfl (lv_at hl 1 rfl) ?_
  refine cl_X8_190 C h (c_X8_isFour l D cy ad Ls st p9) (x_room (by omega)) ⟨Nat.zero_le _, Nat.zero_le _⟩ hl.1 (Nat.le_of_ble_eq_true rfl) dX8_rate_1 (fun r2 u1 H locs hp h => ?_)
  obtain ⟨er2, eu1⟩ := hp; rw [eu1] at h; clear eu1 u1; refine x_topi er2 ?_; clear er2 r2
  refine x_ifb_eq (tgt := 18) hx hb dX8_rate_4 (by decide) (fun c4 => ?_) (fun c4 => ?_)
  · refine lv_iconst (v := nI 0) hx hb dX8_rate_18 (by decide) ?_
    refine lv_istore (lv' := [(5, .int (nI 0)), (0, .ref (ad 30)), (1, .int p9), (2, .int k9), (3, .int h9), (4, .int f9)]) hx hb dX8_rate_19 hl (by decide) rfl (fun ls hl => ?_)
    refine lv_iload_n hx hb dX8_rate_21 rfl (lv_at hl 4 rfl) ?_
    refine lv_iconst (v := nI 0) hx hb dX8_rate_22 (by decide) ?_
    refine lv_bipush (v := nI 100) hx hb dX8_rate_23 (by decide) ?_
    refine cl_X8_120 C h (c_X8_isIn l D cy ad Ls st h9 (nI 0) (nI 100)) (x_room (by omega)) ⟨Nat.zero_le _, Nat.zero_le _⟩ hl.1 (Nat.le_of_ble_eq_true rfl) dX8_rate_25 (fun r4 u3 H locs hp h => ?_)
    obtain ⟨er4, eu3⟩ := hp; rw [eu3] at h; clear eu3 u3; refine x_topi er4 ?_; clear er4 r4
    refine x_ifb_eq (tgt := 47) hx hb dX8_rate_28 (by decide) (fun c28 => ?_) (fun c28 => ?_)
    · refine lv_iconst (v := nI 0) hx hb dX8_rate_47 (by decide) ?_
      refine lv_istore (lv' := [(6, .int (nI 0)), (5, .int (nI 0)), (0, .ref (ad 30)), (1, .int p9), (2, .int k9), (3, .int h9), (4, .int f9)]) hx hb dX8_rate_48 hl (by decide) rfl (fun ls hl => ?_)
      refine lv_aload_n hx hb dX8_rate_50 rfl (lv_at hl 2 rfl) ?_
      refine lv_iload hx hb dX8_rate_51 (lv_at hl 1 rfl) ?_
      refine x_ifN_ne (tgt := 60) hx hb dX8_rate_53 (by decide) (by decide) (fun z9 => absurd z9 (by decide)) (fun _ => ?_)
      refine lv_iconst (v := nI 1) hx hb dX8_rate_56 (by decide) ?_
      refine lv_goto (tgt := 83) hx hb dX8_rate_57 (by decide) ?_
      refine pf_X8_110 C h (hM 30 (by decide)) rfl dX8_rate_83 (fun H locs u5 eu5 h => ?_)
      have e6 : gi u5 17 30 = nI n := by rw [eu5, gi_si, if_neg (by omega)]; exact hn17
      have e7 : gi u5 0 30 = nI 1 := by rw [eu5, gi_si, if_pos ⟨rfl, rfl⟩]
      refine lv_aload_n hx hb dX8_rate_86 rfl (lv_at hl 2 rfl) ?_
      refine gf_X8_110 C h (hM 30 (by decide)) rfl dX8_rate_87 ?_
      refine x_topi e7 ?_
      refine x_ifN_le (tgt := 95) hx hb dX8_rate_90 (by decide) (by decide) (fun z9 => absurd z9 (by decide)) (fun _ => ?_)
      refine lv_iconst (v := nI 0) hx hb dX8_rate_93 (by decide) ?_
      exact x_iret C hr hlocks h (Or.inl ⟨by rw [show kbRate n p9 k9 h9 f9 = 1 from by simp only [kbRate, if_true, if_false, Bool.not_true, Bool.not_false, Bool.and_true, Bool.true_and, Bool.and_false, Bool.false_and, Bool.or_true, Bool.true_or, Bool.or_false, Bool.false_or, Bool.false_eq_true, eq_self, decide_true, decide_false, c4, c28]]; decide, rfl, by rw [eu5, show kbRate n p9 k9 h9 f9 = 1 from by simp only [kbRate, if_true, if_false, Bool.not_true, Bool.not_false, Bool.and_true, Bool.true_and, Bool.and_false, Bool.false_and, Bool.or_true, Bool.true_or, Bool.or_false, Bool.false_or, Bool.false_eq_true, eq_self, decide_true, decide_false, c4, c28]]⟩) dX8_rate_94
    · refine lv_iload hx hb dX8_rate_31 (lv_at hl 5 rfl) ?_
      refine lv_iconst (v := nI 0) hx hb dX8_rate_33 (by decide) ?_
      refine lv_sipush (v := nI 9999) hx hb dX8_rate_34 (by decide) ?_
      refine cl_X8_120 C h (c_X8_isIn l D cy ad Ls st f9 (nI 0) (nI 9999)) (x_room (by omega)) ⟨Nat.zero_le _, Nat.zero_le _⟩ hl.1 (Nat.le_of_ble_eq_true rfl) dX8_rate_37 (fun r9 u8 H locs hp h => ?_)
      obtain ⟨er9, eu8⟩ := hp; rw [eu8] at h; clear eu8 u8; refine x_topi er9 ?_; clear er9 r9
      refine x_ifb_eq (tgt := 47) hx hb dX8_rate_40 (by decide) (fun c40 => ?_) (fun c40 => ?_)
      · refine lv_iconst (v := nI 0) hx hb dX8_rate_47 (by decide) ?_
        refine lv_istore (lv' := [(6, .int (nI 0)), (5, .int (nI 0)), (0, .ref (ad 30)), (1, .int p9), (2, .int k9), (3, .int h9), (4, .int f9)]) hx hb dX8_rate_48 hl (by decide) rfl (fun ls hl => ?_)
        refine lv_aload_n hx hb dX8_rate_50 rfl (lv_at hl 2 rfl) ?_
        refine lv_iload hx hb dX8_rate_51 (lv_at hl 1 rfl) ?_
        refine x_ifN_ne (tgt := 60) hx hb dX8_rate_53 (by decide) (by decide) (fun z9 => absurd z9 (by decide)) (fun _ => ?_)
        refine lv_iconst (v := nI 1) hx hb dX8_rate_56 (by decide) ?_
        refine lv_goto (tgt := 83) hx hb dX8_rate_57 (by decide) ?_
        refine pf_X8_110 C h (hM 30 (by decide)) rfl dX8_rate_83 (fun H locs u10 eu10 h => ?_)
        have e11 : gi u10 17 30 = nI n := by rw [eu10, gi_si, if_neg (by omega)]; exact hn17
        have e12 : gi u10 0 30 = nI 1 := by rw [eu10, gi_si, if_pos ⟨rfl, rfl⟩]
        refine lv_aload_n hx hb dX8_rate_86 rfl (lv_at hl 2 rfl) ?_
        refine gf_X8_110 C h (hM 30 (by decide)) rfl dX8_rate_87 ?_
        refine x_topi e12 ?_
        refine x_ifN_le (tgt := 95) hx hb dX8_rate_90 (by decide) (by decide) (fun z9 => absurd z9 (by decide)) (fun _ => ?_)
        refine lv_iconst (v := nI 0) hx hb dX8_rate_93 (by decide) ?_
        exact x_iret C hr hlocks h (Or.inl ⟨by rw [show kbRate n p9 k9 h9 f9 = 1 from by simp only [kbRate, if_true, if_false, Bool.not_true, Bool.not_false, Bool.and_true, Bool.true_and, Bool.and_false, Bool.false_and, Bool.or_true, Bool.true_or, Bool.or_false, Bool.false_or, Bool.false_eq_true, eq_self, decide_true, decide_false, c4, c28, c40]]; decide, rfl, by rw [eu10, show kbRate n p9 k9 h9 f9 = 1 from by simp only [kbRate, if_true, if_false, Bool.not_true, Bool.not_false, Bool.and_true, Bool.true_and, Bool.and_false, Bool.false_and, Bool.or_true, Bool.true_or, Bool.or_false, Bool.false_or, Bool.false_eq_true, eq_self, decide_true, decide_false, c4, c28, c40]]⟩) dX8_rate_94
      · refine lv_iconst (v := nI 1) hx hb dX8_rate_43 (by decide) ?_
        refine lv_goto (tgt := 48) hx hb dX8_rate_44 (by decide) ?_
        refine lv_istore (lv' := [(6, .int (nI 1)), (5, .int (nI 0)), (0, .ref (ad 30)), (1, .int p9), (2, .int k9), (3, .int h9), (4, .int f9)]) hx hb dX8_rate_48 hl (by decide) rfl (fun ls hl => ?_)
        refine lv_aload_n hx hb dX8_rate_50 rfl (lv_at hl 2 rfl) ?_
        refine lv_iload hx hb dX8_rate_51 (lv_at hl 1 rfl) ?_
        refine x_ifN_ne (tgt := 60) hx hb dX8_rate_53 (by decide) (by decide) (fun z9 => absurd z9 (by decide)) (fun _ => ?_)
        refine lv_iconst (v := nI 1) hx hb dX8_rate_56 (by decide) ?_
        refine lv_goto (tgt := 83) hx hb dX8_rate_57 (by decide) ?_
        refine pf_X8_110 C h (hM 30 (by decide)) rfl dX8_rate_83 (fun H locs u13 eu13 h => ?_)
        have e14 : gi u13 17 30 = nI n := by rw [eu13, gi_si, if_neg (by omega)]; exact hn17
        have e15 : gi u13 0 30 = nI 1 := by rw [eu13, gi_si, if_pos ⟨rfl, rfl⟩]
        refine lv_aload_n hx hb dX8_rate_86 rfl (lv_at hl 2 rfl) ?_
        refine gf_X8_110 C h (hM 30 (by decide)) rfl dX8_rate_87 ?_
        refine x_topi e15 ?_
        refine x_ifN_le (tgt := 95) hx hb dX8_rate_90 (by decide) (by decide) (fun z9 => absurd z9 (by decide)) (fun _ => ?_)
        refine lv_iconst (v := nI 0) hx hb dX8_rate_93 (by decide) ?_
        exact x_iret C hr hlocks h (Or.inl ⟨by rw [show kbRate n p9 k9 h9 f9 = 1 from by simp only [kbRate, if_true, if_false, Bool.not_true, Bool.not_false, Bool.and_true, Bool.true_and, Bool.and_false, Bool.false_and, Bool.or_true, Bool.true_or, Bool.or_false, Bool.false_or, Bool.false_eq_true, eq_self, decide_true, decide_false, c4, c28, c40]]; decide, rfl, by rw [eu13, show kbRate n p9 k9 h9 f9 = 1 from by simp only [kbRate, if_true, if_false, Bool.not_true, Bool.not_false, Bool.and_true, Bool.true_and, Bool.and_false, Bool.false_and, Bool.or_true, Bool.true_or, Bool.or_false, Bool.false_or, Bool.false_eq_true, eq_self, decide_true, decide_false, c4, c28, c40]]⟩) dX8_rate_94
  · refine lv_iload_n hx hb dX8_rate_7 rfl (lv_at hl 2 rfl) ?_
    refine cl_X8_190 C h (c_X8_isFour l D cy ad Ls st k9) (x_room (by omega)) ⟨Nat.zero_le _, Nat.zero_le _⟩ hl.1 (Nat.le_of_ble_eq_true rfl) dX8_rate_8 (fun r17 u16 H locs hp h => ?_)
    obtain ⟨er17, eu16⟩ := hp; rw [eu16] at h; clear eu16 u16; refine x_topi er17 ?_; clear er17 r17
    refine x_ifb_eq (tgt := 18) hx hb dX8_rate_11 (by decide) (fun c11 => ?_) (fun c11 => ?_)
    · refine lv_iconst (v := nI 0) hx hb dX8_rate_18 (by decide) ?_
      refine lv_istore (lv' := [(5, .int (nI 0)), (0, .ref (ad 30)), (1, .int p9), (2, .int k9), (3, .int h9), (4, .int f9)]) hx hb dX8_rate_19 hl (by decide) rfl (fun ls hl => ?_)
      refine lv_iload_n hx hb dX8_rate_21 rfl (lv_at hl 4 rfl) ?_
      refine lv_iconst (v := nI 0) hx hb dX8_rate_22 (by decide) ?_
      refine lv_bipush (v := nI 100) hx hb dX8_rate_23 (by decide) ?_
      refine cl_X8_120 C h (c_X8_isIn l D cy ad Ls st h9 (nI 0) (nI 100)) (x_room (by omega)) ⟨Nat.zero_le _, Nat.zero_le _⟩ hl.1 (Nat.le_of_ble_eq_true rfl) dX8_rate_25 (fun r19 u18 H locs hp h => ?_)
      obtain ⟨er19, eu18⟩ := hp; rw [eu18] at h; clear eu18 u18; refine x_topi er19 ?_; clear er19 r19
      refine x_ifb_eq (tgt := 47) hx hb dX8_rate_28 (by decide) (fun c28 => ?_) (fun c28 => ?_)
      · refine lv_iconst (v := nI 0) hx hb dX8_rate_47 (by decide) ?_
        refine lv_istore (lv' := [(6, .int (nI 0)), (5, .int (nI 0)), (0, .ref (ad 30)), (1, .int p9), (2, .int k9), (3, .int h9), (4, .int f9)]) hx hb dX8_rate_48 hl (by decide) rfl (fun ls hl => ?_)
        refine lv_aload_n hx hb dX8_rate_50 rfl (lv_at hl 2 rfl) ?_
        refine lv_iload hx hb dX8_rate_51 (lv_at hl 1 rfl) ?_
        refine x_ifN_ne (tgt := 60) hx hb dX8_rate_53 (by decide) (by decide) (fun z9 => absurd z9 (by decide)) (fun _ => ?_)
        refine lv_iconst (v := nI 1) hx hb dX8_rate_56 (by decide) ?_
        refine lv_goto (tgt := 83) hx hb dX8_rate_57 (by decide) ?_
        refine pf_X8_110 C h (hM 30 (by decide)) rfl dX8_rate_83 (fun H locs u20 eu20 h => ?_)
        have e21 : gi u20 17 30 = nI n := by rw [eu20, gi_si, if_neg (by omega)]; exact hn17
        have e22 : gi u20 0 30 = nI 1 := by rw [eu20, gi_si, if_pos ⟨rfl, rfl⟩]
        refine lv_aload_n hx hb dX8_rate_86 rfl (lv_at hl 2 rfl) ?_
        refine gf_X8_110 C h (hM 30 (by decide)) rfl dX8_rate_87 ?_
        refine x_topi e22 ?_
        refine x_ifN_le (tgt := 95) hx hb dX8_rate_90 (by decide) (by decide) (fun z9 => absurd z9 (by decide)) (fun _ => ?_)
        refine lv_iconst (v := nI 0) hx hb dX8_rate_93 (by decide) ?_
        exact x_iret C hr hlocks h (Or.inl ⟨by rw [show kbRate n p9 k9 h9 f9 = 1 from by simp only [kbRate, if_true, if_false, Bool.not_true, Bool.not_false, Bool.and_true, Bool.true_and, Bool.and_false, Bool.false_and, Bool.or_true, Bool.true_or, Bool.or_false, Bool.false_or, Bool.false_eq_true, eq_self, decide_true, decide_false, c4, c11, c28]]; decide, rfl, by rw [eu20, show kbRate n p9 k9 h9 f9 = 1 from by simp only [kbRate, if_true, if_false, Bool.not_true, Bool.not_false, Bool.and_true, Bool.true_and, Bool.and_false, Bool.false_and, Bool.or_true, Bool.true_or, Bool.or_false, Bool.false_or, Bool.false_eq_true, eq_self, decide_true, decide_false, c4, c11, c28]]⟩) dX8_rate_94
      · refine lv_iload hx hb dX8_rate_31 (lv_at hl 5 rfl) ?_
        refine lv_iconst (v := nI 0) hx hb dX8_rate_33 (by decide) ?_
        refine lv_sipush (v := nI 9999) hx hb dX8_rate_34 (by decide) ?_
        refine cl_X8_120 C h (c_X8_isIn l D cy ad Ls st f9 (nI 0) (nI 9999)) (x_room (by omega)) ⟨Nat.zero_le _, Nat.zero_le _⟩ hl.1 (Nat.le_of_ble_eq_true rfl) dX8_rate_37 (fun r24 u23 H locs hp h => ?_)
        obtain ⟨er24, eu23⟩ := hp; rw [eu23] at h; clear eu23 u23; refine x_topi er24 ?_; clear er24 r24
        refine x_ifb_eq (tgt := 47) hx hb dX8_rate_40 (by decide) (fun c40 => ?_) (fun c40 => ?_)
        · refine lv_iconst (v := nI 0) hx hb dX8_rate_47 (by decide) ?_
          refine lv_istore (lv' := [(6, .int (nI 0)), (5, .int (nI 0)), (0, .ref (ad 30)), (1, .int p9), (2, .int k9), (3, .int h9), (4, .int f9)]) hx hb dX8_rate_48 hl (by decide) rfl (fun ls hl => ?_)
          refine lv_aload_n hx hb dX8_rate_50 rfl (lv_at hl 2 rfl) ?_
          refine lv_iload hx hb dX8_rate_51 (lv_at hl 1 rfl) ?_
          refine x_ifN_ne (tgt := 60) hx hb dX8_rate_53 (by decide) (by decide) (fun z9 => absurd z9 (by decide)) (fun _ => ?_)
          refine lv_iconst (v := nI 1) hx hb dX8_rate_56 (by decide) ?_
          refine lv_goto (tgt := 83) hx hb dX8_rate_57 (by decide) ?_
          refine pf_X8_110 C h (hM 30 (by decide)) rfl dX8_rate_83 (fun H locs u25 eu25 h => ?_)
          have e26 : gi u25 17 30 = nI n := by rw [eu25, gi_si, if_neg (by omega)]; exact hn17
          have e27 : gi u25 0 30 = nI 1 := by rw [eu25, gi_si, if_pos ⟨rfl, rfl⟩]
          refine lv_aload_n hx hb dX8_rate_86 rfl (lv_at hl 2 rfl) ?_
          refine gf_X8_110 C h (hM 30 (by decide)) rfl dX8_rate_87 ?_
          refine x_topi e27 ?_
          refine x_ifN_le (tgt := 95) hx hb dX8_rate_90 (by decide) (by decide) (fun z9 => absurd z9 (by decide)) (fun _ => ?_)
          refine lv_iconst (v := nI 0) hx hb dX8_rate_93 (by decide) ?_
          exact x_iret C hr hlocks h (Or.inl ⟨by rw [show kbRate n p9 k9 h9 f9 = 1 from by simp only [kbRate, if_true, if_false, Bool.not_true, Bool.not_false, Bool.and_true, Bool.true_and, Bool.and_false, Bool.false_and, Bool.or_true, Bool.true_or, Bool.or_false, Bool.false_or, Bool.false_eq_true, eq_self, decide_true, decide_false, c4, c11, c28, c40]]; decide, rfl, by rw [eu25, show kbRate n p9 k9 h9 f9 = 1 from by simp only [kbRate, if_true, if_false, Bool.not_true, Bool.not_false, Bool.and_true, Bool.true_and, Bool.and_false, Bool.false_and, Bool.or_true, Bool.true_or, Bool.or_false, Bool.false_or, Bool.false_eq_true, eq_self, decide_true, decide_false, c4, c11, c28, c40]]⟩) dX8_rate_94
        · refine lv_iconst (v := nI 1) hx hb dX8_rate_43 (by decide) ?_
          refine lv_goto (tgt := 48) hx hb dX8_rate_44 (by decide) ?_
          refine lv_istore (lv' := [(6, .int (nI 1)), (5, .int (nI 0)), (0, .ref (ad 30)), (1, .int p9), (2, .int k9), (3, .int h9), (4, .int f9)]) hx hb dX8_rate_48 hl (by decide) rfl (fun ls hl => ?_)
          refine lv_aload_n hx hb dX8_rate_50 rfl (lv_at hl 2 rfl) ?_
          refine lv_iload hx hb dX8_rate_51 (lv_at hl 1 rfl) ?_
          refine x_ifN_ne (tgt := 60) hx hb dX8_rate_53 (by decide) (by decide) (fun z9 => absurd z9 (by decide)) (fun _ => ?_)
          refine lv_iconst (v := nI 1) hx hb dX8_rate_56 (by decide) ?_
          refine lv_goto (tgt := 83) hx hb dX8_rate_57 (by decide) ?_
          refine pf_X8_110 C h (hM 30 (by decide)) rfl dX8_rate_83 (fun H locs u28 eu28 h => ?_)
          have e29 : gi u28 17 30 = nI n := by rw [eu28, gi_si, if_neg (by omega)]; exact hn17
          have e30 : gi u28 0 30 = nI 1 := by rw [eu28, gi_si, if_pos ⟨rfl, rfl⟩]
          refine lv_aload_n hx hb dX8_rate_86 rfl (lv_at hl 2 rfl) ?_
          refine gf_X8_110 C h (hM 30 (by decide)) rfl dX8_rate_87 ?_
          refine x_topi e30 ?_
          refine x_ifN_le (tgt := 95) hx hb dX8_rate_90 (by decide) (by decide) (fun z9 => absurd z9 (by decide)) (fun _ => ?_)
          refine lv_iconst (v := nI 0) hx hb dX8_rate_93 (by decide) ?_
          exact x_iret C hr hlocks h (Or.inl ⟨by rw [show kbRate n p9 k9 h9 f9 = 1 from by simp only [kbRate, if_true, if_false, Bool.not_true, Bool.not_false, Bool.and_true, Bool.true_and, Bool.and_false, Bool.false_and, Bool.or_true, Bool.true_or, Bool.or_false, Bool.false_or, Bool.false_eq_true, eq_self, decide_true, decide_false, c4, c11, c28, c40]]; decide, rfl, by rw [eu28, show kbRate n p9 k9 h9 f9 = 1 from by simp only [kbRate, if_true, if_false, Bool.not_true, Bool.not_false, Bool.and_true, Bool.true_and, Bool.and_false, Bool.false_and, Bool.or_true, Bool.true_or, Bool.or_false, Bool.false_or, Bool.false_eq_true, eq_self, decide_true, decide_false, c4, c11, c28, c40]]⟩) dX8_rate_94
    · refine lv_iconst (v := nI 1) hx hb dX8_rate_14 (by decide) ?_
      refine lv_goto (tgt := 19) hx hb dX8_rate_15 (by decide) ?_
      refine lv_istore (lv' := [(5, .int (nI 1)), (0, .ref (ad 30)), (1, .int p9), (2, .int k9), (3, .int h9), (4, .int f9)]) hx hb dX8_rate_19 hl (by decide) rfl (fun ls hl => ?_)
      refine lv_iload_n hx hb dX8_rate_21 rfl (lv_at hl 4 rfl) ?_
      refine lv_iconst (v := nI 0) hx hb dX8_rate_22 (by decide) ?_
      refine lv_bipush (v := nI 100) hx hb dX8_rate_23 (by decide) ?_
      refine cl_X8_120 C h (c_X8_isIn l D cy ad Ls st h9 (nI 0) (nI 100)) (x_room (by omega)) ⟨Nat.zero_le _, Nat.zero_le _⟩ hl.1 (Nat.le_of_ble_eq_true rfl) dX8_rate_25 (fun r32 u31 H locs hp h => ?_)
      obtain ⟨er32, eu31⟩ := hp; rw [eu31] at h; clear eu31 u31; refine x_topi er32 ?_; clear er32 r32
      refine x_ifb_eq (tgt := 47) hx hb dX8_rate_28 (by decide) (fun c28 => ?_) (fun c28 => ?_)
      · refine lv_iconst (v := nI 0) hx hb dX8_rate_47 (by decide) ?_
        refine lv_istore (lv' := [(6, .int (nI 0)), (5, .int (nI 1)), (0, .ref (ad 30)), (1, .int p9), (2, .int k9), (3, .int h9), (4, .int f9)]) hx hb dX8_rate_48 hl (by decide) rfl (fun ls hl => ?_)
        refine lv_aload_n hx hb dX8_rate_50 rfl (lv_at hl 2 rfl) ?_
        refine lv_iload hx hb dX8_rate_51 (lv_at hl 1 rfl) ?_
        refine x_ifN_ne (tgt := 60) hx hb dX8_rate_53 (by decide) (by decide) (fun _ => ?_) (fun z9 => absurd z9 (by decide))
        refine lv_iload hx hb dX8_rate_60 (lv_at hl 0 rfl) ?_
        refine x_ifN_ne (tgt := 69) hx hb dX8_rate_62 (by decide) (by decide) (fun z9 => absurd z9 (by decide)) (fun _ => ?_)
        refine lv_iconst (v := nI 2) hx hb dX8_rate_65 (by decide) ?_
        refine lv_goto (tgt := 83) hx hb dX8_rate_66 (by decide) ?_
        refine pf_X8_110 C h (hM 30 (by decide)) rfl dX8_rate_83 (fun H locs u33 eu33 h => ?_)
        have e34 : gi u33 17 30 = nI n := by rw [eu33, gi_si, if_neg (by omega)]; exact hn17
        have e35 : gi u33 0 30 = nI 2 := by rw [eu33, gi_si, if_pos ⟨rfl, rfl⟩]
        refine lv_aload_n hx hb dX8_rate_86 rfl (lv_at hl 2 rfl) ?_
        refine gf_X8_110 C h (hM 30 (by decide)) rfl dX8_rate_87 ?_
        refine x_topi e35 ?_
        refine x_ifN_le (tgt := 95) hx hb dX8_rate_90 (by decide) (by decide) (fun z9 => absurd z9 (by decide)) (fun _ => ?_)
        refine lv_iconst (v := nI 0) hx hb dX8_rate_93 (by decide) ?_
        exact x_iret C hr hlocks h (Or.inl ⟨by rw [show kbRate n p9 k9 h9 f9 = 2 from by simp only [kbRate, if_true, if_false, Bool.not_true, Bool.not_false, Bool.and_true, Bool.true_and, Bool.and_false, Bool.false_and, Bool.or_true, Bool.true_or, Bool.or_false, Bool.false_or, Bool.false_eq_true, eq_self, decide_true, decide_false, c4, c11, c28]]; decide, rfl, by rw [eu33, show kbRate n p9 k9 h9 f9 = 2 from by simp only [kbRate, if_true, if_false, Bool.not_true, Bool.not_false, Bool.and_true, Bool.true_and, Bool.and_false, Bool.false_and, Bool.or_true, Bool.true_or, Bool.or_false, Bool.false_or, Bool.false_eq_true, eq_self, decide_true, decide_false, c4, c11, c28]]⟩) dX8_rate_94
      · refine lv_iload hx hb dX8_rate_31 (lv_at hl 5 rfl) ?_
        refine lv_iconst (v := nI 0) hx hb dX8_rate_33 (by decide) ?_
        refine lv_sipush (v := nI 9999) hx hb dX8_rate_34 (by decide) ?_
        refine cl_X8_120 C h (c_X8_isIn l D cy ad Ls st f9 (nI 0) (nI 9999)) (x_room (by omega)) ⟨Nat.zero_le _, Nat.zero_le _⟩ hl.1 (Nat.le_of_ble_eq_true rfl) dX8_rate_37 (fun r37 u36 H locs hp h => ?_)
        obtain ⟨er37, eu36⟩ := hp; rw [eu36] at h; clear eu36 u36; refine x_topi er37 ?_; clear er37 r37
        refine x_ifb_eq (tgt := 47) hx hb dX8_rate_40 (by decide) (fun c40 => ?_) (fun c40 => ?_)
        · refine lv_iconst (v := nI 0) hx hb dX8_rate_47 (by decide) ?_
          refine lv_istore (lv' := [(6, .int (nI 0)), (5, .int (nI 1)), (0, .ref (ad 30)), (1, .int p9), (2, .int k9), (3, .int h9), (4, .int f9)]) hx hb dX8_rate_48 hl (by decide) rfl (fun ls hl => ?_)
          refine lv_aload_n hx hb dX8_rate_50 rfl (lv_at hl 2 rfl) ?_
          refine lv_iload hx hb dX8_rate_51 (lv_at hl 1 rfl) ?_
          refine x_ifN_ne (tgt := 60) hx hb dX8_rate_53 (by decide) (by decide) (fun _ => ?_) (fun z9 => absurd z9 (by decide))
          refine lv_iload hx hb dX8_rate_60 (lv_at hl 0 rfl) ?_
          refine x_ifN_ne (tgt := 69) hx hb dX8_rate_62 (by decide) (by decide) (fun z9 => absurd z9 (by decide)) (fun _ => ?_)
          refine lv_iconst (v := nI 2) hx hb dX8_rate_65 (by decide) ?_
          refine lv_goto (tgt := 83) hx hb dX8_rate_66 (by decide) ?_
          refine pf_X8_110 C h (hM 30 (by decide)) rfl dX8_rate_83 (fun H locs u38 eu38 h => ?_)
          have e39 : gi u38 17 30 = nI n := by rw [eu38, gi_si, if_neg (by omega)]; exact hn17
          have e40 : gi u38 0 30 = nI 2 := by rw [eu38, gi_si, if_pos ⟨rfl, rfl⟩]
          refine lv_aload_n hx hb dX8_rate_86 rfl (lv_at hl 2 rfl) ?_
          refine gf_X8_110 C h (hM 30 (by decide)) rfl dX8_rate_87 ?_
          refine x_topi e40 ?_
          refine x_ifN_le (tgt := 95) hx hb dX8_rate_90 (by decide) (by decide) (fun z9 => absurd z9 (by decide)) (fun _ => ?_)
          refine lv_iconst (v := nI 0) hx hb dX8_rate_93 (by decide) ?_
          exact x_iret C hr hlocks h (Or.inl ⟨by rw [show kbRate n p9 k9 h9 f9 = 2 from by simp only [kbRate, if_true, if_false, Bool.not_true, Bool.not_false, Bool.and_true, Bool.true_and, Bool.and_false, Bool.false_and, Bool.or_true, Bool.true_or, Bool.or_false, Bool.false_or, Bool.false_eq_true, eq_self, decide_true, decide_false, c4, c11, c28, c40]]; decide, rfl, by rw [eu38, show kbRate n p9 k9 h9 f9 = 2 from by simp only [kbRate, if_true, if_false, Bool.not_true, Bool.not_false, Bool.and_true, Bool.true_and, Bool.and_false, Bool.false_and, Bool.or_true, Bool.true_or, Bool.or_false, Bool.false_or, Bool.false_eq_true, eq_self, decide_true, decide_false, c4, c11, c28, c40]]⟩) dX8_rate_94
        · refine lv_iconst (v := nI 1) hx hb dX8_rate_43 (by decide) ?_
          refine lv_goto (tgt := 48) hx hb dX8_rate_44 (by decide) ?_
          refine lv_istore (lv' := [(6, .int (nI 1)), (5, .int (nI 1)), (0, .ref (ad 30)), (1, .int p9), (2, .int k9), (3, .int h9), (4, .int f9)]) hx hb dX8_rate_48 hl (by decide) rfl (fun ls hl => ?_)
          refine lv_aload_n hx hb dX8_rate_50 rfl (lv_at hl 2 rfl) ?_
          refine lv_iload hx hb dX8_rate_51 (lv_at hl 1 rfl) ?_
          refine x_ifN_ne (tgt := 60) hx hb dX8_rate_53 (by decide) (by decide) (fun _ => ?_) (fun z9 => absurd z9 (by decide))
          refine lv_iload hx hb dX8_rate_60 (lv_at hl 0 rfl) ?_
          refine x_ifN_ne (tgt := 69) hx hb dX8_rate_62 (by decide) (by decide) (fun _ => ?_) (fun z9 => absurd z9 (by decide))
          refine lv_aload_n hx hb dX8_rate_69 rfl (lv_at hl 2 rfl) ?_
          refine gf_X8_193 C h (hM 30 (by decide)) rfl dX8_rate_70 ?_
          refine x_topi hn17 ?_
          refine lv_bipush (v := nI 60) hx hb dX8_rate_73 (by decide) ?_
          refine x_icmpN_ne (tgt := 82) hx hb dX8_rate_75 (by decide) (by omega) (by omega) (fun c75 => ?_) (fun c75 => ?_)
          · refine lv_iconst (v := nI 0) hx hb dX8_rate_82 (by decide) ?_
            refine pf_X8_110 C h (hM 30 (by decide)) rfl dX8_rate_83 (fun H locs u41 eu41 h => ?_)
            have e42 : gi u41 17 30 = nI n := by rw [eu41, gi_si, if_neg (by omega)]; exact hn17
            have e43 : gi u41 0 30 = nI 0 := by rw [eu41, gi_si, if_pos ⟨rfl, rfl⟩]
            refine lv_aload_n hx hb dX8_rate_86 rfl (lv_at hl 2 rfl) ?_
            refine gf_X8_110 C h (hM 30 (by decide)) rfl dX8_rate_87 ?_
            refine x_topi e43 ?_
            refine x_ifN_le (tgt := 95) hx hb dX8_rate_90 (by decide) (by decide) (fun _ => ?_) (fun z9 => absurd z9 (by decide))
            refine lv_aload_n hx hb dX8_rate_95 rfl (lv_at hl 2 rfl) ?_
            refine gf_X8_38 C h (hM 30 (by decide)) rfl (k2 := 48) rfl dX8_rate_96 ?_
            refine lv_aload_n hx hb dX8_rate_99 rfl (lv_at hl 2 rfl) ?_
            refine gf_X8_193 C h (hM 30 (by decide)) rfl dX8_rate_100 ?_
            refine x_topi e42 ?_
            refine lv_iload_n hx hb dX8_rate_103 rfl (lv_at hl 3 rfl) ?_
            refine x_ast C h (hM 48 (by decide)) (n := 60) rfl n (by omega) (by decide) rfl dX8_rate_104 (fun H locs u44 eu44 h => ?_)
            have e45 : gi u44 17 30 = nI n := by rw [eu44]; exact e42
            have e46 : gi u44 0 30 = nI 0 := by rw [eu44]; exact e43
            refine lv_aload_n hx hb dX8_rate_105 rfl (lv_at hl 2 rfl) ?_
            refine gf_X8_41 C h (hM 30 (by decide)) rfl (k2 := 49) rfl dX8_rate_106 ?_
            refine lv_aload_n hx hb dX8_rate_109 rfl (lv_at hl 2 rfl) ?_
            refine gf_X8_193 C h (hM 30 (by decide)) rfl dX8_rate_110 ?_
            refine x_topi e45 ?_
            refine lv_iload_n hx hb dX8_rate_113 rfl (lv_at hl 4 rfl) ?_
            refine x_ast C h (hM 49 (by decide)) (n := 60) rfl n (by omega) (by decide) rfl dX8_rate_114 (fun H locs u47 eu47 h => ?_)
            have e48 : gi u47 17 30 = nI n := by rw [eu47]; exact e45
            have e49 : gi u47 0 30 = nI 0 := by rw [eu47]; exact e46
            refine lv_aload_n hx hb dX8_rate_115 rfl (lv_at hl 2 rfl) ?_
            refine gf_X8_44 C h (hM 30 (by decide)) rfl (k2 := 50) rfl dX8_rate_116 ?_
            refine lv_aload_n hx hb dX8_rate_119 rfl (lv_at hl 2 rfl) ?_
            refine gf_X8_193 C h (hM 30 (by decide)) rfl dX8_rate_120 ?_
            refine x_topi e48 ?_
            refine lv_iload_n hx hb dX8_rate_123 rfl (lv_at hl 5 rfl) ?_
            refine x_ast C h (hM 50 (by decide)) (n := 60) rfl n (by omega) (by decide) rfl dX8_rate_124 (fun H locs u50 eu50 h => ?_)
            have e51 : gi u50 17 30 = nI n := by rw [eu50]; exact e48
            have e52 : gi u50 0 30 = nI 0 := by rw [eu50]; exact e49
            refine lv_aload_n hx hb dX8_rate_125 rfl (lv_at hl 2 rfl) ?_
            refine gf_X8_47 C h (hM 30 (by decide)) rfl (k2 := 51) rfl dX8_rate_126 ?_
            refine lv_aload_n hx hb dX8_rate_129 rfl (lv_at hl 2 rfl) ?_
            refine gf_X8_193 C h (hM 30 (by decide)) rfl dX8_rate_130 ?_
            refine x_topi e51 ?_
            refine lv_iload hx hb dX8_rate_133 (lv_at hl 6 rfl) ?_
            refine x_ast C h (hM 51 (by decide)) (n := 60) rfl n (by omega) (by decide) rfl dX8_rate_135 (fun H locs u53 eu53 h => ?_)
            have e54 : gi u53 17 30 = nI n := by rw [eu53]; exact e51
            have e55 : gi u53 0 30 = nI 0 := by rw [eu53]; exact e52
            refine lv_aload_n hx hb dX8_rate_136 rfl (lv_at hl 2 rfl) ?_
            refine lv_dup hx hb dX8_rate_137 rfl ?_
            refine gf_X8_193 C h (hM 30 (by decide)) rfl dX8_rate_138 ?_
            refine x_topi e54 ?_
            refine lv_iconst (v := nI 1) hx hb dX8_rate_141 (by decide) ?_
            refine x_addN hx hb dX8_rate_142 ?_
            refine pf_X8_193 C h (hM 30 (by decide)) rfl dX8_rate_143 (fun H locs u56 eu56 h => ?_)
            have e58 : gi u56 0 30 = nI 0 := by rw [eu56, gi_si, if_neg (by omega)]; exact e55
            have e59 : gi u56 17 30 = nI (n + 1) := by rw [eu56, gi_si, if_pos ⟨rfl, rfl⟩]
            refine lv_aload_n hx hb dX8_rate_146 rfl (lv_at hl 2 rfl) ?_
            refine gf_X8_193 C h (hM 30 (by decide)) rfl dX8_rate_147 ?_
            refine x_topi e59 ?_
            refine lv_iconst (v := nI 1) hx hb dX8_rate_150 (by decide) ?_
            refine lv_isub hx hb dX8_rate_151 ?_
            exact x_iret C hr hlocks h (Or.inr ⟨by simp only [kbRate, if_true, if_false, Bool.not_true, Bool.not_false, Bool.and_true, Bool.true_and, Bool.and_false, Bool.false_and, Bool.or_true, Bool.true_or, Bool.or_false, Bool.false_or, Bool.false_eq_true, eq_self, decide_true, decide_false, c4, c11, c28, c40, c75], pk_sub (by omega), by rw [eu56, eu53, eu50, eu47, eu44, eu41]; rfl⟩) dX8_rate_152
          · refine lv_iconst (v := nI 3) hx hb dX8_rate_78 (by decide) ?_
            refine lv_goto (tgt := 83) hx hb dX8_rate_79 (by decide) ?_
            refine pf_X8_110 C h (hM 30 (by decide)) rfl dX8_rate_83 (fun H locs u60 eu60 h => ?_)
            have e61 : gi u60 17 30 = nI n := by rw [eu60, gi_si, if_neg (by omega)]; exact hn17
            have e62 : gi u60 0 30 = nI 3 := by rw [eu60, gi_si, if_pos ⟨rfl, rfl⟩]
            refine lv_aload_n hx hb dX8_rate_86 rfl (lv_at hl 2 rfl) ?_
            refine gf_X8_110 C h (hM 30 (by decide)) rfl dX8_rate_87 ?_
            refine x_topi e62 ?_
            refine x_ifN_le (tgt := 95) hx hb dX8_rate_90 (by decide) (by decide) (fun z9 => absurd z9 (by decide)) (fun _ => ?_)
            refine lv_iconst (v := nI 0) hx hb dX8_rate_93 (by decide) ?_
            exact x_iret C hr hlocks h (Or.inl ⟨by rw [show kbRate n p9 k9 h9 f9 = 3 from by simp only [kbRate, if_true, if_false, Bool.not_true, Bool.not_false, Bool.and_true, Bool.true_and, Bool.and_false, Bool.false_and, Bool.or_true, Bool.true_or, Bool.or_false, Bool.false_or, Bool.false_eq_true, eq_self, decide_true, decide_false, c4, c11, c28, c40, c75]]; decide, rfl, by rw [eu60, show kbRate n p9 k9 h9 f9 = 3 from by simp only [kbRate, if_true, if_false, Bool.not_true, Bool.not_false, Bool.and_true, Bool.true_and, Bool.and_false, Bool.false_and, Bool.or_true, Bool.true_or, Bool.or_false, Bool.false_or, Bool.false_eq_true, eq_self, decide_true, decide_false, c4, c11, c28, c40, c75]]⟩) dX8_rate_94

set_option maxHeartbeats 4000000 in
set_option maxRecDepth 100000 in
theorem c_X8_round (l : Launch) (D : va_G) (cy : Nat → ClassId) (ad : Nat → Nat) (Ls : List Nat) (st : XS) (hM : ∀ k, k ∈ LsM → k ∈ Ls) (p9 w9 : Int32) : xMi l yX8_round cX8_round 4 (some .int) 2 D cy ad Ls st [.ref (ad 30), .int p9, .int w9] (fun r u => (¬ kbRound p9 w9 = 0 ∧ r = nI 0 ∧ u = si st 0 30 (nI (kbRound p9 w9))) ∨ (kbRound p9 w9 = 0 ∧ ∃ j : Nat, j ≤ 3 ∧ p9 = nI j ∧ r = ga st 52 j ∧ u = sa (si st 0 30 (nI 0)) 52 (upd (ga st 52) j w9))) := by
  intro sz
  refine x_of sz (by decide +kernel) (Nat.le_of_ble_eq_true rfl) ?_
  intro p e s m args below meth c ls hx hb hr hlocks C hsz h hl
  have hl : lv_has ls 4 [(0, .ref (ad 30)), (1, .int p9), (2, .int w9)] := hl
  obtain ⟨H, eH⟩ : ∃ z, z = s.heap := ⟨_, rfl⟩
  obtain ⟨locs, eL⟩ : ∃ z : List Loc, z = [] := ⟨_, rfl⟩
  rw [← eH, ← eL] at h
  rw [← eH, ← eL]
  clear eH eL
  refine lv_aload_n hx hb dX8_round_0 rfl (lv_at hl 0 rfl) ?_
  refine lv_iload_n hx hb dX8_round_1 rfl (lv_at hl 1 rfl) ?_
  refine cl_X8_190 C h (c_X8_isFour l D cy ad Ls st p9) (x_room (by omega)) ⟨Nat.zero_le _, Nat.zero_le _⟩ hl.1 (Nat.le_of_ble_eq_true rfl) dX8_round_2 (fun r2 u1 H locs hp h => ?_)
  obtain ⟨er2, eu1⟩ := hp; rw [eu1] at h; clear eu1 u1; refine x_topi er2 ?_; clear er2 r2
  refine x_ifb_ne (tgt := 12) hx hb dX8_round_5 (by decide) (fun c5 => ?_) (fun c5 => ?_)
  · refine lv_iload_n hx hb dX8_round_12 rfl (lv_at hl 2 rfl) ?_
    refine lv_iconst (v := nI 0) hx hb dX8_round_13 (by decide) ?_
    refine lv_iconst (v := nI 2) hx hb dX8_round_14 (by decide) ?_
    refine cl_X8_120 C h (c_X8_isIn l D cy ad Ls st w9 (nI 0) (nI 2)) (x_room (by omega)) ⟨Nat.zero_le _, Nat.zero_le _⟩ hl.1 (Nat.le_of_ble_eq_true rfl) dX8_round_15 (fun r4 u3 H locs hp h => ?_)
    obtain ⟨er4, eu3⟩ := hp; rw [eu3] at h; clear eu3 u3; refine x_topi er4 ?_; clear er4 r4
    refine x_ifb_ne (tgt := 25) hx hb dX8_round_18 (by decide) (fun c18 => ?_) (fun c18 => ?_)
    · refine lv_iconst (v := nI 0) hx hb dX8_round_25 (by decide) ?_
      refine pf_X8_110 C h (hM 30 (by decide)) rfl dX8_round_26 (fun H locs u5 eu5 h => ?_)
      have e6 : gi u5 0 30 = nI 0 := by rw [eu5, gi_si, if_pos ⟨rfl, rfl⟩]
      refine lv_aload_n hx hb dX8_round_29 rfl (lv_at hl 0 rfl) ?_
      refine gf_X8_110 C h (hM 30 (by decide)) rfl dX8_round_30 ?_
      refine x_topi e6 ?_
      refine x_ifN_le (tgt := 38) hx hb dX8_round_33 (by decide) (by decide) (fun _ => ?_) (fun z9 => absurd z9 (by decide))
      refine lv_aload_n hx hb dX8_round_38 rfl (lv_at hl 0 rfl) ?_
      refine gf_X8_50 C h (hM 30 (by decide)) rfl (k2 := 52) rfl dX8_round_39 ?_
      refine lv_iload_n hx hb dX8_round_42 rfl (lv_at hl 1 rfl) ?_
      obtain ⟨jp9, hjp9, ejp9⟩ := inR_j c5 (by decide)
      refine x_ald C h (hM 52 (by decide)) (n := 4) rfl jp9 (by omega) (by decide) ejp9 dX8_round_43 ?_
      refine lv_istore_n (lv' := [(3, .int (ga u5 52 jp9)), (0, .ref (ad 30)), (1, .int p9), (2, .int w9)]) hx hb dX8_round_44 rfl hl (by decide) rfl (fun ls hl => ?_)
      refine lv_aload_n hx hb dX8_round_45 rfl (lv_at hl 1 rfl) ?_
      refine gf_X8_50 C h (hM 30 (by decide)) rfl (k2 := 52) rfl dX8_round_46 ?_
      refine lv_iload_n hx hb dX8_round_49 rfl (lv_at hl 2 rfl) ?_
      refine lv_iload_n hx hb dX8_round_50 rfl (lv_at hl 3 rfl) ?_
      refine x_ast C h (hM 52 (by decide)) (n := 4) rfl jp9 (by omega) (by decide) ejp9 dX8_round_51 (fun H locs u7 eu7 h => ?_)
      have e8 : gi u7 0 30 = nI 0 := by rw [eu7]; exact e6
      refine lv_iload_n hx hb dX8_round_52 rfl (lv_at hl 0 rfl) ?_
      exact x_iret C hr hlocks h (Or.inr ⟨by simp only [kbRound, if_true, if_false, Bool.not_true, Bool.not_false, Bool.and_true, Bool.true_and, Bool.and_false, Bool.false_and, Bool.or_true, Bool.true_or, Bool.or_false, Bool.false_or, Bool.false_eq_true, eq_self, decide_true, decide_false, c5, c18], jp9, hjp9, ejp9, by rw [eu5]; rfl, by rw [eu7, eu5]; rfl⟩) dX8_round_53
    · refine lv_iconst (v := nI 2) hx hb dX8_round_21 (by decide) ?_
      refine lv_goto (tgt := 26) hx hb dX8_round_22 (by decide) ?_
      refine pf_X8_110 C h (hM 30 (by decide)) rfl dX8_round_26 (fun H locs u9 eu9 h => ?_)
      have e10 : gi u9 0 30 = nI 2 := by rw [eu9, gi_si, if_pos ⟨rfl, rfl⟩]
      refine lv_aload_n hx hb dX8_round_29 rfl (lv_at hl 0 rfl) ?_
      refine gf_X8_110 C h (hM 30 (by decide)) rfl dX8_round_30 ?_
      refine x_topi e10 ?_
      refine x_ifN_le (tgt := 38) hx hb dX8_round_33 (by decide) (by decide) (fun z9 => absurd z9 (by decide)) (fun _ => ?_)
      refine lv_iconst (v := nI 0) hx hb dX8_round_36 (by decide) ?_
      exact x_iret C hr hlocks h (Or.inl ⟨by rw [show kbRound p9 w9 = 2 from by simp only [kbRound, if_true, if_false, Bool.not_true, Bool.not_false, Bool.and_true, Bool.true_and, Bool.and_false, Bool.false_and, Bool.or_true, Bool.true_or, Bool.or_false, Bool.false_or, Bool.false_eq_true, eq_self, decide_true, decide_false, c5, c18]]; decide, rfl, by rw [eu9, show kbRound p9 w9 = 2 from by simp only [kbRound, if_true, if_false, Bool.not_true, Bool.not_false, Bool.and_true, Bool.true_and, Bool.and_false, Bool.false_and, Bool.or_true, Bool.true_or, Bool.or_false, Bool.false_or, Bool.false_eq_true, eq_self, decide_true, decide_false, c5, c18]]⟩) dX8_round_37
  · refine lv_iconst (v := nI 1) hx hb dX8_round_8 (by decide) ?_
    refine lv_goto (tgt := 26) hx hb dX8_round_9 (by decide) ?_
    refine pf_X8_110 C h (hM 30 (by decide)) rfl dX8_round_26 (fun H locs u11 eu11 h => ?_)
    have e12 : gi u11 0 30 = nI 1 := by rw [eu11, gi_si, if_pos ⟨rfl, rfl⟩]
    refine lv_aload_n hx hb dX8_round_29 rfl (lv_at hl 0 rfl) ?_
    refine gf_X8_110 C h (hM 30 (by decide)) rfl dX8_round_30 ?_
    refine x_topi e12 ?_
    refine x_ifN_le (tgt := 38) hx hb dX8_round_33 (by decide) (by decide) (fun z9 => absurd z9 (by decide)) (fun _ => ?_)
    refine lv_iconst (v := nI 0) hx hb dX8_round_36 (by decide) ?_
    exact x_iret C hr hlocks h (Or.inl ⟨by rw [show kbRound p9 w9 = 1 from by simp only [kbRound, if_true, if_false, Bool.not_true, Bool.not_false, Bool.and_true, Bool.true_and, Bool.and_false, Bool.false_and, Bool.or_true, Bool.true_or, Bool.or_false, Bool.false_or, Bool.false_eq_true, eq_self, decide_true, decide_false, c5]]; decide, rfl, by rw [eu11, show kbRound p9 w9 = 1 from by simp only [kbRound, if_true, if_false, Bool.not_true, Bool.not_false, Bool.and_true, Bool.true_and, Bool.and_false, Bool.false_and, Bool.or_true, Bool.true_or, Bool.or_false, Bool.false_or, Bool.false_eq_true, eq_self, decide_true, decide_false, c5]]⟩) dX8_round_37

set_option maxHeartbeats 4000000 in
set_option maxRecDepth 100000 in
theorem c_X8_client (l : Launch) (D : va_G) (cy : Nat → ClassId) (ad : Nat → Nat) (Ls : List Nat) (st : XS) (hM : ∀ k, k ∈ LsM → k ∈ Ls) (c9 p9 : Int32) : xMi l yX8_client cX8_client 4 (some .int) 2 D cy ad Ls st [.ref (ad 30), .int c9, .int p9] (fun r u => (¬ kbClient c9 p9 = 0 ∧ r = nI 0 ∧ u = si st 0 30 (nI (kbClient c9 p9))) ∨ (kbClient c9 p9 = 0 ∧ ∃ j : Nat, j ≤ 9 ∧ c9 = nI j ∧ r = ga st 53 j ∧ u = sa (si st 0 30 (nI 0)) 53 (upd (ga st 53) j p9))) := by
  intro sz
  refine x_of sz (by decide +kernel) (Nat.le_of_ble_eq_true rfl) ?_
  intro p e s m args below meth c ls hx hb hr hlocks C hsz h hl
  have hl : lv_has ls 4 [(0, .ref (ad 30)), (1, .int c9), (2, .int p9)] := hl
  obtain ⟨H, eH⟩ : ∃ z, z = s.heap := ⟨_, rfl⟩
  obtain ⟨locs, eL⟩ : ∃ z : List Loc, z = [] := ⟨_, rfl⟩
  rw [← eH, ← eL] at h
  rw [← eH, ← eL]
  clear eH eL
  refine lv_aload_n hx hb dX8_client_0 rfl (lv_at hl 0 rfl) ?_
  refine lv_iload_n hx hb dX8_client_1 rfl (lv_at hl 1 rfl) ?_
  refine lv_iconst (v := nI 0) hx hb dX8_client_2 (by decide) ?_
  refine lv_bipush (v := nI 9) hx hb dX8_client_3 (by decide) ?_
  refine cl_X8_120 C h (c_X8_isIn l D cy ad Ls st c9 (nI 0) (nI 9)) (x_room (by omega)) ⟨Nat.zero_le _, Nat.zero_le _⟩ hl.1 (Nat.le_of_ble_eq_true rfl) dX8_client_5 (fun r2 u1 H locs hp h => ?_)
  obtain ⟨er2, eu1⟩ := hp; rw [eu1] at h; clear eu1 u1; refine x_topi er2 ?_; clear er2 r2
  refine x_ifb_eq (tgt := 22) hx hb dX8_client_8 (by decide) (fun c8 => ?_) (fun c8 => ?_)
  · refine lv_iconst (v := nI 1) hx hb dX8_client_22 (by decide) ?_
    refine pf_X8_110 C h (hM 30 (by decide)) rfl dX8_client_23 (fun H locs u3 eu3 h => ?_)
    have e4 : gi u3 0 30 = nI 1 := by rw [eu3, gi_si, if_pos ⟨rfl, rfl⟩]
    refine lv_aload_n hx hb dX8_client_26 rfl (lv_at hl 0 rfl) ?_
    refine gf_X8_110 C h (hM 30 (by decide)) rfl dX8_client_27 ?_
    refine x_topi e4 ?_
    refine x_ifN_le (tgt := 35) hx hb dX8_client_30 (by decide) (by decide) (fun z9 => absurd z9 (by decide)) (fun _ => ?_)
    refine lv_iconst (v := nI 0) hx hb dX8_client_33 (by decide) ?_
    exact x_iret C hr hlocks h (Or.inl ⟨by rw [show kbClient c9 p9 = 1 from by simp only [kbClient, if_true, if_false, Bool.not_true, Bool.not_false, Bool.and_true, Bool.true_and, Bool.and_false, Bool.false_and, Bool.or_true, Bool.true_or, Bool.or_false, Bool.false_or, Bool.false_eq_true, eq_self, decide_true, decide_false, c8]]; decide, rfl, by rw [eu3, show kbClient c9 p9 = 1 from by simp only [kbClient, if_true, if_false, Bool.not_true, Bool.not_false, Bool.and_true, Bool.true_and, Bool.and_false, Bool.false_and, Bool.or_true, Bool.true_or, Bool.or_false, Bool.false_or, Bool.false_eq_true, eq_self, decide_true, decide_false, c8]]⟩) dX8_client_34
  · refine lv_iload_n hx hb dX8_client_11 rfl (lv_at hl 2 rfl) ?_
    refine cl_X8_190 C h (c_X8_isFour l D cy ad Ls st p9) (x_room (by omega)) ⟨Nat.zero_le _, Nat.zero_le _⟩ hl.1 (Nat.le_of_ble_eq_true rfl) dX8_client_12 (fun r6 u5 H locs hp h => ?_)
    obtain ⟨er6, eu5⟩ := hp; rw [eu5] at h; clear eu5 u5; refine x_topi er6 ?_; clear er6 r6
    refine x_ifb_eq (tgt := 22) hx hb dX8_client_15 (by decide) (fun c15 => ?_) (fun c15 => ?_)
    · refine lv_iconst (v := nI 1) hx hb dX8_client_22 (by decide) ?_
      refine pf_X8_110 C h (hM 30 (by decide)) rfl dX8_client_23 (fun H locs u7 eu7 h => ?_)
      have e8 : gi u7 0 30 = nI 1 := by rw [eu7, gi_si, if_pos ⟨rfl, rfl⟩]
      refine lv_aload_n hx hb dX8_client_26 rfl (lv_at hl 0 rfl) ?_
      refine gf_X8_110 C h (hM 30 (by decide)) rfl dX8_client_27 ?_
      refine x_topi e8 ?_
      refine x_ifN_le (tgt := 35) hx hb dX8_client_30 (by decide) (by decide) (fun z9 => absurd z9 (by decide)) (fun _ => ?_)
      refine lv_iconst (v := nI 0) hx hb dX8_client_33 (by decide) ?_
      exact x_iret C hr hlocks h (Or.inl ⟨by rw [show kbClient c9 p9 = 1 from by simp only [kbClient, if_true, if_false, Bool.not_true, Bool.not_false, Bool.and_true, Bool.true_and, Bool.and_false, Bool.false_and, Bool.or_true, Bool.true_or, Bool.or_false, Bool.false_or, Bool.false_eq_true, eq_self, decide_true, decide_false, c8, c15]]; decide, rfl, by rw [eu7, show kbClient c9 p9 = 1 from by simp only [kbClient, if_true, if_false, Bool.not_true, Bool.not_false, Bool.and_true, Bool.true_and, Bool.and_false, Bool.false_and, Bool.or_true, Bool.true_or, Bool.or_false, Bool.false_or, Bool.false_eq_true, eq_self, decide_true, decide_false, c8, c15]]⟩) dX8_client_34
    · refine lv_iconst (v := nI 0) hx hb dX8_client_18 (by decide) ?_
      refine lv_goto (tgt := 23) hx hb dX8_client_19 (by decide) ?_
      refine pf_X8_110 C h (hM 30 (by decide)) rfl dX8_client_23 (fun H locs u9 eu9 h => ?_)
      have e10 : gi u9 0 30 = nI 0 := by rw [eu9, gi_si, if_pos ⟨rfl, rfl⟩]
      refine lv_aload_n hx hb dX8_client_26 rfl (lv_at hl 0 rfl) ?_
      refine gf_X8_110 C h (hM 30 (by decide)) rfl dX8_client_27 ?_
      refine x_topi e10 ?_
      refine x_ifN_le (tgt := 35) hx hb dX8_client_30 (by decide) (by decide) (fun _ => ?_) (fun z9 => absurd z9 (by decide))
      refine lv_aload_n hx hb dX8_client_35 rfl (lv_at hl 0 rfl) ?_
      refine gf_X8_53 C h (hM 30 (by decide)) rfl (k2 := 53) rfl dX8_client_36 ?_
      refine lv_iload_n hx hb dX8_client_39 rfl (lv_at hl 1 rfl) ?_
      obtain ⟨jc9, hjc9, ejc9⟩ := inR_j c8 (by decide)
      refine x_ald C h (hM 53 (by decide)) (n := 10) rfl jc9 (by omega) (by decide) ejc9 dX8_client_40 ?_
      refine lv_istore_n (lv' := [(3, .int (ga u9 53 jc9)), (0, .ref (ad 30)), (1, .int c9), (2, .int p9)]) hx hb dX8_client_41 rfl hl (by decide) rfl (fun ls hl => ?_)
      refine lv_aload_n hx hb dX8_client_42 rfl (lv_at hl 1 rfl) ?_
      refine gf_X8_53 C h (hM 30 (by decide)) rfl (k2 := 53) rfl dX8_client_43 ?_
      refine lv_iload_n hx hb dX8_client_46 rfl (lv_at hl 2 rfl) ?_
      refine lv_iload_n hx hb dX8_client_47 rfl (lv_at hl 3 rfl) ?_
      refine x_ast C h (hM 53 (by decide)) (n := 10) rfl jc9 (by omega) (by decide) ejc9 dX8_client_48 (fun H locs u11 eu11 h => ?_)
      have e12 : gi u11 0 30 = nI 0 := by rw [eu11]; exact e10
      refine lv_iload_n hx hb dX8_client_49 rfl (lv_at hl 0 rfl) ?_
      exact x_iret C hr hlocks h (Or.inr ⟨by simp only [kbClient, if_true, if_false, Bool.not_true, Bool.not_false, Bool.and_true, Bool.true_and, Bool.and_false, Bool.false_and, Bool.or_true, Bool.true_or, Bool.or_false, Bool.false_or, Bool.false_eq_true, eq_self, decide_true, decide_false, c8, c15], jc9, hjc9, ejc9, by rw [eu9]; rfl, by rw [eu11, eu9]; rfl⟩) dX8_client_50

set_option maxHeartbeats 4000000 in
set_option maxRecDepth 100000 in
theorem c_X8_line (l : Launch) (D : va_G) (cy : Nat → ClassId) (ad : Nat → Nat) (Ls : List Nat) (st : XS) (hM : ∀ k, k ∈ LsM → k ∈ Ls) (n : Nat) (hn6 : n ≤ 6) (hn24 : gi st 24 30 = nI n) (k9 q9 p9 : Int32) : xMi l yX8_line cX8_line 5 (some .int) 2 D cy ad Ls st [.ref (ad 30), .int k9, .int q9, .int p9] (fun r u => (¬ kbLine n k9 q9 p9 = 0 ∧ r = nI 0 ∧ u = si st 0 30 (nI (kbLine n k9 q9 p9))) ∨ (kbLine n k9 q9 p9 = 0 ∧ r = nI (n + 1) ∧ u = si (sa (sa (sa (si st 0 30 (nI 0)) 55 (upd (ga st 55) n k9)) 56 (upd (ga st 56) n q9)) 57 (upd (ga st 57) n p9)) 24 30 (nI (n + 1)))) := by
  intro sz
  refine x_of sz (by decide +kernel) (Nat.le_of_ble_eq_true rfl) ?_
  intro p e s m args below meth c ls hx hb hr hlocks C hsz h hl
  have hl : lv_has ls 5 [(0, .ref (ad 30)), (1, .int k9), (2, .int q9), (3, .int p9)] := hl
  obtain ⟨H, eH⟩ : ∃ z, z = s.heap := ⟨_, rfl⟩
  obtain ⟨locs, eL⟩ : ∃ z : List Loc, z = [] := ⟨_, rfl⟩
  rw [← eH, ← eL] at h
  rw [← eH, ← eL]
  clear eH eL
  refine lv_iload_n hx hb dX8_line_0 rfl (lv_at hl 2 rfl) ?_
  refine lv_iconst (v := nI 1) hx hb dX8_line_1 (by decide) ?_
  refine lv_bipush (v := nI 99) hx hb dX8_line_2 (by decide) ?_
  refine cl_X8_120 C h (c_X8_isIn l D cy ad Ls st q9 (nI 1) (nI 99)) (x_room (by omega)) ⟨Nat.zero_le _, Nat.zero_le _⟩ hl.1 (Nat.le_of_ble_eq_true rfl) dX8_line_4 (fun r2 u1 H locs hp h => ?_)
  obtain ⟨er2, eu1⟩ := hp; rw [eu1] at h; clear eu1 u1; refine x_topi er2 ?_; clear er2 r2
  refine x_ifb_eq (tgt := 25) hx hb dX8_line_7 (by decide) (fun c7 => ?_) (fun c7 => ?_)
  · refine lv_iconst (v := nI 0) hx hb dX8_line_25 (by decide) ?_
    refine lv_istore (lv' := [(4, .int (nI 0)), (0, .ref (ad 30)), (1, .int k9), (2, .int q9), (3, .int p9)]) hx hb dX8_line_26 hl (by decide) rfl (fun ls hl => ?_)
    refine lv_aload_n hx hb dX8_line_28 rfl (lv_at hl 1 rfl) ?_
    refine lv_iload_n hx hb dX8_line_29 rfl (lv_at hl 2 rfl) ?_
    refine cl_X8_190 C h (c_X8_isFour l D cy ad Ls st k9) (x_room (by omega)) ⟨Nat.zero_le _, Nat.zero_le _⟩ hl.1 (Nat.le_of_ble_eq_true rfl) dX8_line_30 (fun r4 u3 H locs hp h => ?_)
    obtain ⟨er4, eu3⟩ := hp; rw [eu3] at h; clear eu3 u3; refine x_topi er4 ?_; clear er4 r4
    refine x_ifb_ne (tgt := 40) hx hb dX8_line_33 (by decide) (fun c33 => ?_) (fun c33 => ?_)
    · refine lv_iload hx hb dX8_line_40 (lv_at hl 0 rfl) ?_
      refine x_ifN_ne (tgt := 49) hx hb dX8_line_42 (by decide) (by decide) (fun z9 => absurd z9 (by decide)) (fun _ => ?_)
      refine lv_iconst (v := nI 2) hx hb dX8_line_45 (by decide) ?_
      refine lv_goto (tgt := 63) hx hb dX8_line_46 (by decide) ?_
      refine pf_X8_110 C h (hM 30 (by decide)) rfl dX8_line_63 (fun H locs u5 eu5 h => ?_)
      have e6 : gi u5 24 30 = nI n := by rw [eu5, gi_si, if_neg (by omega)]; exact hn24
      have e7 : gi u5 0 30 = nI 2 := by rw [eu5, gi_si, if_pos ⟨rfl, rfl⟩]
      refine lv_aload_n hx hb dX8_line_66 rfl (lv_at hl 1 rfl) ?_
      refine gf_X8_110 C h (hM 30 (by decide)) rfl dX8_line_67 ?_
      refine x_topi e7 ?_
      refine x_ifN_le (tgt := 75) hx hb dX8_line_70 (by decide) (by decide) (fun z9 => absurd z9 (by decide)) (fun _ => ?_)
      refine lv_iconst (v := nI 0) hx hb dX8_line_73 (by decide) ?_
      exact x_iret C hr hlocks h (Or.inl ⟨by rw [show kbLine n k9 q9 p9 = 2 from by simp only [kbLine, if_true, if_false, Bool.not_true, Bool.not_false, Bool.and_true, Bool.true_and, Bool.and_false, Bool.false_and, Bool.or_true, Bool.true_or, Bool.or_false, Bool.false_or, Bool.false_eq_true, eq_self, decide_true, decide_false, c7, c33]]; decide, rfl, by rw [eu5, show kbLine n k9 q9 p9 = 2 from by simp only [kbLine, if_true, if_false, Bool.not_true, Bool.not_false, Bool.and_true, Bool.true_and, Bool.and_false, Bool.false_and, Bool.or_true, Bool.true_or, Bool.or_false, Bool.false_or, Bool.false_eq_true, eq_self, decide_true, decide_false, c7, c33]]⟩) dX8_line_74
    · refine lv_iconst (v := nI 1) hx hb dX8_line_36 (by decide) ?_
      refine lv_goto (tgt := 63) hx hb dX8_line_37 (by decide) ?_
      refine pf_X8_110 C h (hM 30 (by decide)) rfl dX8_line_63 (fun H locs u8 eu8 h => ?_)
      have e9 : gi u8 24 30 = nI n := by rw [eu8, gi_si, if_neg (by omega)]; exact hn24
      have e10 : gi u8 0 30 = nI 1 := by rw [eu8, gi_si, if_pos ⟨rfl, rfl⟩]
      refine lv_aload_n hx hb dX8_line_66 rfl (lv_at hl 1 rfl) ?_
      refine gf_X8_110 C h (hM 30 (by decide)) rfl dX8_line_67 ?_
      refine x_topi e10 ?_
      refine x_ifN_le (tgt := 75) hx hb dX8_line_70 (by decide) (by decide) (fun z9 => absurd z9 (by decide)) (fun _ => ?_)
      refine lv_iconst (v := nI 0) hx hb dX8_line_73 (by decide) ?_
      exact x_iret C hr hlocks h (Or.inl ⟨by rw [show kbLine n k9 q9 p9 = 1 from by simp only [kbLine, if_true, if_false, Bool.not_true, Bool.not_false, Bool.and_true, Bool.true_and, Bool.and_false, Bool.false_and, Bool.or_true, Bool.true_or, Bool.or_false, Bool.false_or, Bool.false_eq_true, eq_self, decide_true, decide_false, c7, c33]]; decide, rfl, by rw [eu8, show kbLine n k9 q9 p9 = 1 from by simp only [kbLine, if_true, if_false, Bool.not_true, Bool.not_false, Bool.and_true, Bool.true_and, Bool.and_false, Bool.false_and, Bool.or_true, Bool.true_or, Bool.or_false, Bool.false_or, Bool.false_eq_true, eq_self, decide_true, decide_false, c7, c33]]⟩) dX8_line_74
  · refine lv_iload_n hx hb dX8_line_10 rfl (lv_at hl 3 rfl) ?_
    refine lv_iconst (v := nI 1) hx hb dX8_line_11 (by decide) ?_
    refine lv_sipush (v := nI 9999) hx hb dX8_line_12 (by decide) ?_
    refine cl_X8_120 C h (c_X8_isIn l D cy ad Ls st p9 (nI 1) (nI 9999)) (x_room (by omega)) ⟨Nat.zero_le _, Nat.zero_le _⟩ hl.1 (Nat.le_of_ble_eq_true rfl) dX8_line_15 (fun r12 u11 H locs hp h => ?_)
    obtain ⟨er12, eu11⟩ := hp; rw [eu11] at h; clear eu11 u11; refine x_topi er12 ?_; clear er12 r12
    refine x_ifb_eq (tgt := 25) hx hb dX8_line_18 (by decide) (fun c18 => ?_) (fun c18 => ?_)
    · refine lv_iconst (v := nI 0) hx hb dX8_line_25 (by decide) ?_
      refine lv_istore (lv' := [(4, .int (nI 0)), (0, .ref (ad 30)), (1, .int k9), (2, .int q9), (3, .int p9)]) hx hb dX8_line_26 hl (by decide) rfl (fun ls hl => ?_)
      refine lv_aload_n hx hb dX8_line_28 rfl (lv_at hl 1 rfl) ?_
      refine lv_iload_n hx hb dX8_line_29 rfl (lv_at hl 2 rfl) ?_
      refine cl_X8_190 C h (c_X8_isFour l D cy ad Ls st k9) (x_room (by omega)) ⟨Nat.zero_le _, Nat.zero_le _⟩ hl.1 (Nat.le_of_ble_eq_true rfl) dX8_line_30 (fun r14 u13 H locs hp h => ?_)
      obtain ⟨er14, eu13⟩ := hp; rw [eu13] at h; clear eu13 u13; refine x_topi er14 ?_; clear er14 r14
      refine x_ifb_ne (tgt := 40) hx hb dX8_line_33 (by decide) (fun c33 => ?_) (fun c33 => ?_)
      · refine lv_iload hx hb dX8_line_40 (lv_at hl 0 rfl) ?_
        refine x_ifN_ne (tgt := 49) hx hb dX8_line_42 (by decide) (by decide) (fun z9 => absurd z9 (by decide)) (fun _ => ?_)
        refine lv_iconst (v := nI 2) hx hb dX8_line_45 (by decide) ?_
        refine lv_goto (tgt := 63) hx hb dX8_line_46 (by decide) ?_
        refine pf_X8_110 C h (hM 30 (by decide)) rfl dX8_line_63 (fun H locs u15 eu15 h => ?_)
        have e16 : gi u15 24 30 = nI n := by rw [eu15, gi_si, if_neg (by omega)]; exact hn24
        have e17 : gi u15 0 30 = nI 2 := by rw [eu15, gi_si, if_pos ⟨rfl, rfl⟩]
        refine lv_aload_n hx hb dX8_line_66 rfl (lv_at hl 1 rfl) ?_
        refine gf_X8_110 C h (hM 30 (by decide)) rfl dX8_line_67 ?_
        refine x_topi e17 ?_
        refine x_ifN_le (tgt := 75) hx hb dX8_line_70 (by decide) (by decide) (fun z9 => absurd z9 (by decide)) (fun _ => ?_)
        refine lv_iconst (v := nI 0) hx hb dX8_line_73 (by decide) ?_
        exact x_iret C hr hlocks h (Or.inl ⟨by rw [show kbLine n k9 q9 p9 = 2 from by simp only [kbLine, if_true, if_false, Bool.not_true, Bool.not_false, Bool.and_true, Bool.true_and, Bool.and_false, Bool.false_and, Bool.or_true, Bool.true_or, Bool.or_false, Bool.false_or, Bool.false_eq_true, eq_self, decide_true, decide_false, c7, c18, c33]]; decide, rfl, by rw [eu15, show kbLine n k9 q9 p9 = 2 from by simp only [kbLine, if_true, if_false, Bool.not_true, Bool.not_false, Bool.and_true, Bool.true_and, Bool.and_false, Bool.false_and, Bool.or_true, Bool.true_or, Bool.or_false, Bool.false_or, Bool.false_eq_true, eq_self, decide_true, decide_false, c7, c18, c33]]⟩) dX8_line_74
      · refine lv_iconst (v := nI 1) hx hb dX8_line_36 (by decide) ?_
        refine lv_goto (tgt := 63) hx hb dX8_line_37 (by decide) ?_
        refine pf_X8_110 C h (hM 30 (by decide)) rfl dX8_line_63 (fun H locs u18 eu18 h => ?_)
        have e19 : gi u18 24 30 = nI n := by rw [eu18, gi_si, if_neg (by omega)]; exact hn24
        have e20 : gi u18 0 30 = nI 1 := by rw [eu18, gi_si, if_pos ⟨rfl, rfl⟩]
        refine lv_aload_n hx hb dX8_line_66 rfl (lv_at hl 1 rfl) ?_
        refine gf_X8_110 C h (hM 30 (by decide)) rfl dX8_line_67 ?_
        refine x_topi e20 ?_
        refine x_ifN_le (tgt := 75) hx hb dX8_line_70 (by decide) (by decide) (fun z9 => absurd z9 (by decide)) (fun _ => ?_)
        refine lv_iconst (v := nI 0) hx hb dX8_line_73 (by decide) ?_
        exact x_iret C hr hlocks h (Or.inl ⟨by rw [show kbLine n k9 q9 p9 = 1 from by simp only [kbLine, if_true, if_false, Bool.not_true, Bool.not_false, Bool.and_true, Bool.true_and, Bool.and_false, Bool.false_and, Bool.or_true, Bool.true_or, Bool.or_false, Bool.false_or, Bool.false_eq_true, eq_self, decide_true, decide_false, c7, c18, c33]]; decide, rfl, by rw [eu18, show kbLine n k9 q9 p9 = 1 from by simp only [kbLine, if_true, if_false, Bool.not_true, Bool.not_false, Bool.and_true, Bool.true_and, Bool.and_false, Bool.false_and, Bool.or_true, Bool.true_or, Bool.or_false, Bool.false_or, Bool.false_eq_true, eq_self, decide_true, decide_false, c7, c18, c33]]⟩) dX8_line_74
    · refine lv_iconst (v := nI 1) hx hb dX8_line_21 (by decide) ?_
      refine lv_goto (tgt := 26) hx hb dX8_line_22 (by decide) ?_
      refine lv_istore (lv' := [(4, .int (nI 1)), (0, .ref (ad 30)), (1, .int k9), (2, .int q9), (3, .int p9)]) hx hb dX8_line_26 hl (by decide) rfl (fun ls hl => ?_)
      refine lv_aload_n hx hb dX8_line_28 rfl (lv_at hl 1 rfl) ?_
      refine lv_iload_n hx hb dX8_line_29 rfl (lv_at hl 2 rfl) ?_
      refine cl_X8_190 C h (c_X8_isFour l D cy ad Ls st k9) (x_room (by omega)) ⟨Nat.zero_le _, Nat.zero_le _⟩ hl.1 (Nat.le_of_ble_eq_true rfl) dX8_line_30 (fun r22 u21 H locs hp h => ?_)
      obtain ⟨er22, eu21⟩ := hp; rw [eu21] at h; clear eu21 u21; refine x_topi er22 ?_; clear er22 r22
      refine x_ifb_ne (tgt := 40) hx hb dX8_line_33 (by decide) (fun c33 => ?_) (fun c33 => ?_)
      · refine lv_iload hx hb dX8_line_40 (lv_at hl 0 rfl) ?_
        refine x_ifN_ne (tgt := 49) hx hb dX8_line_42 (by decide) (by decide) (fun _ => ?_) (fun z9 => absurd z9 (by decide))
        refine lv_aload_n hx hb dX8_line_49 rfl (lv_at hl 1 rfl) ?_
        refine gf_X8_200 C h (hM 30 (by decide)) rfl dX8_line_50 ?_
        refine x_topi hn24 ?_
        refine lv_bipush (v := nI 6) hx hb dX8_line_53 (by decide) ?_
        refine x_icmpN_ne (tgt := 62) hx hb dX8_line_55 (by decide) (by omega) (by omega) (fun c55 => ?_) (fun c55 => ?_)
        · refine lv_iconst (v := nI 0) hx hb dX8_line_62 (by decide) ?_
          refine pf_X8_110 C h (hM 30 (by decide)) rfl dX8_line_63 (fun H locs u23 eu23 h => ?_)
          have e24 : gi u23 24 30 = nI n := by rw [eu23, gi_si, if_neg (by omega)]; exact hn24
          have e25 : gi u23 0 30 = nI 0 := by rw [eu23, gi_si, if_pos ⟨rfl, rfl⟩]
          refine lv_aload_n hx hb dX8_line_66 rfl (lv_at hl 1 rfl) ?_
          refine gf_X8_110 C h (hM 30 (by decide)) rfl dX8_line_67 ?_
          refine x_topi e25 ?_
          refine x_ifN_le (tgt := 75) hx hb dX8_line_70 (by decide) (by decide) (fun _ => ?_) (fun z9 => absurd z9 (by decide))
          refine lv_aload_n hx hb dX8_line_75 rfl (lv_at hl 1 rfl) ?_
          refine gf_X8_56 C h (hM 30 (by decide)) rfl (k2 := 55) rfl dX8_line_76 ?_
          refine lv_aload_n hx hb dX8_line_79 rfl (lv_at hl 1 rfl) ?_
          refine gf_X8_200 C h (hM 30 (by decide)) rfl dX8_line_80 ?_
          refine x_topi e24 ?_
          refine lv_iload_n hx hb dX8_line_83 rfl (lv_at hl 2 rfl) ?_
          refine x_ast C h (hM 55 (by decide)) (n := 6) rfl n (by omega) (by decide) rfl dX8_line_84 (fun H locs u26 eu26 h => ?_)
          have e27 : gi u26 24 30 = nI n := by rw [eu26]; exact e24
          have e28 : gi u26 0 30 = nI 0 := by rw [eu26]; exact e25
          refine lv_aload_n hx hb dX8_line_85 rfl (lv_at hl 1 rfl) ?_
          refine gf_X8_59 C h (hM 30 (by decide)) rfl (k2 := 56) rfl dX8_line_86 ?_
          refine lv_aload_n hx hb dX8_line_89 rfl (lv_at hl 1 rfl) ?_
          refine gf_X8_200 C h (hM 30 (by decide)) rfl dX8_line_90 ?_
          refine x_topi e27 ?_
          refine lv_iload_n hx hb dX8_line_93 rfl (lv_at hl 3 rfl) ?_
          refine x_ast C h (hM 56 (by decide)) (n := 6) rfl n (by omega) (by decide) rfl dX8_line_94 (fun H locs u29 eu29 h => ?_)
          have e30 : gi u29 24 30 = nI n := by rw [eu29]; exact e27
          have e31 : gi u29 0 30 = nI 0 := by rw [eu29]; exact e28
          refine lv_aload_n hx hb dX8_line_95 rfl (lv_at hl 1 rfl) ?_
          refine gf_X8_62 C h (hM 30 (by decide)) rfl (k2 := 57) rfl dX8_line_96 ?_
          refine lv_aload_n hx hb dX8_line_99 rfl (lv_at hl 1 rfl) ?_
          refine gf_X8_200 C h (hM 30 (by decide)) rfl dX8_line_100 ?_
          refine x_topi e30 ?_
          refine lv_iload_n hx hb dX8_line_103 rfl (lv_at hl 4 rfl) ?_
          refine x_ast C h (hM 57 (by decide)) (n := 6) rfl n (by omega) (by decide) rfl dX8_line_104 (fun H locs u32 eu32 h => ?_)
          have e33 : gi u32 24 30 = nI n := by rw [eu32]; exact e30
          have e34 : gi u32 0 30 = nI 0 := by rw [eu32]; exact e31
          refine lv_aload_n hx hb dX8_line_105 rfl (lv_at hl 1 rfl) ?_
          refine lv_dup hx hb dX8_line_106 rfl ?_
          refine gf_X8_200 C h (hM 30 (by decide)) rfl dX8_line_107 ?_
          refine x_topi e33 ?_
          refine lv_iconst (v := nI 1) hx hb dX8_line_110 (by decide) ?_
          refine x_addN hx hb dX8_line_111 ?_
          refine pf_X8_200 C h (hM 30 (by decide)) rfl dX8_line_112 (fun H locs u35 eu35 h => ?_)
          have e37 : gi u35 0 30 = nI 0 := by rw [eu35, gi_si, if_neg (by omega)]; exact e34
          have e38 : gi u35 24 30 = nI (n + 1) := by rw [eu35, gi_si, if_pos ⟨rfl, rfl⟩]
          refine lv_aload_n hx hb dX8_line_115 rfl (lv_at hl 1 rfl) ?_
          refine gf_X8_200 C h (hM 30 (by decide)) rfl dX8_line_116 ?_
          refine x_topi e38 ?_
          exact x_iret C hr hlocks h (Or.inr ⟨by simp only [kbLine, if_true, if_false, Bool.not_true, Bool.not_false, Bool.and_true, Bool.true_and, Bool.and_false, Bool.false_and, Bool.or_true, Bool.true_or, Bool.or_false, Bool.false_or, Bool.false_eq_true, eq_self, decide_true, decide_false, c7, c18, c33, c55], rfl, by rw [eu35, eu32, eu29, eu26, eu23]; rfl⟩) dX8_line_119
        · refine lv_iconst (v := nI 3) hx hb dX8_line_58 (by decide) ?_
          refine lv_goto (tgt := 63) hx hb dX8_line_59 (by decide) ?_
          refine pf_X8_110 C h (hM 30 (by decide)) rfl dX8_line_63 (fun H locs u39 eu39 h => ?_)
          have e40 : gi u39 24 30 = nI n := by rw [eu39, gi_si, if_neg (by omega)]; exact hn24
          have e41 : gi u39 0 30 = nI 3 := by rw [eu39, gi_si, if_pos ⟨rfl, rfl⟩]
          refine lv_aload_n hx hb dX8_line_66 rfl (lv_at hl 1 rfl) ?_
          refine gf_X8_110 C h (hM 30 (by decide)) rfl dX8_line_67 ?_
          refine x_topi e41 ?_
          refine x_ifN_le (tgt := 75) hx hb dX8_line_70 (by decide) (by decide) (fun z9 => absurd z9 (by decide)) (fun _ => ?_)
          refine lv_iconst (v := nI 0) hx hb dX8_line_73 (by decide) ?_
          exact x_iret C hr hlocks h (Or.inl ⟨by rw [show kbLine n k9 q9 p9 = 3 from by simp only [kbLine, if_true, if_false, Bool.not_true, Bool.not_false, Bool.and_true, Bool.true_and, Bool.and_false, Bool.false_and, Bool.or_true, Bool.true_or, Bool.or_false, Bool.false_or, Bool.false_eq_true, eq_self, decide_true, decide_false, c7, c18, c33, c55]]; decide, rfl, by rw [eu39, show kbLine n k9 q9 p9 = 3 from by simp only [kbLine, if_true, if_false, Bool.not_true, Bool.not_false, Bool.and_true, Bool.true_and, Bool.and_false, Bool.false_and, Bool.or_true, Bool.true_or, Bool.or_false, Bool.false_or, Bool.false_eq_true, eq_self, decide_true, decide_false, c7, c18, c33, c55]]⟩) dX8_line_74
      · refine lv_iconst (v := nI 1) hx hb dX8_line_36 (by decide) ?_
        refine lv_goto (tgt := 63) hx hb dX8_line_37 (by decide) ?_
        refine pf_X8_110 C h (hM 30 (by decide)) rfl dX8_line_63 (fun H locs u42 eu42 h => ?_)
        have e43 : gi u42 24 30 = nI n := by rw [eu42, gi_si, if_neg (by omega)]; exact hn24
        have e44 : gi u42 0 30 = nI 1 := by rw [eu42, gi_si, if_pos ⟨rfl, rfl⟩]
        refine lv_aload_n hx hb dX8_line_66 rfl (lv_at hl 1 rfl) ?_
        refine gf_X8_110 C h (hM 30 (by decide)) rfl dX8_line_67 ?_
        refine x_topi e44 ?_
        refine x_ifN_le (tgt := 75) hx hb dX8_line_70 (by decide) (by decide) (fun z9 => absurd z9 (by decide)) (fun _ => ?_)
        refine lv_iconst (v := nI 0) hx hb dX8_line_73 (by decide) ?_
        exact x_iret C hr hlocks h (Or.inl ⟨by rw [show kbLine n k9 q9 p9 = 1 from by simp only [kbLine, if_true, if_false, Bool.not_true, Bool.not_false, Bool.and_true, Bool.true_and, Bool.and_false, Bool.false_and, Bool.or_true, Bool.true_or, Bool.or_false, Bool.false_or, Bool.false_eq_true, eq_self, decide_true, decide_false, c7, c18, c33]]; decide, rfl, by rw [eu42, show kbLine n k9 q9 p9 = 1 from by simp only [kbLine, if_true, if_false, Bool.not_true, Bool.not_false, Bool.and_true, Bool.true_and, Bool.and_false, Bool.false_and, Bool.or_true, Bool.true_or, Bool.or_false, Bool.false_or, Bool.false_eq_true, eq_self, decide_true, decide_false, c7, c18, c33]]⟩) dX8_line_74
