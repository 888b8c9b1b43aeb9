/-! ===== InvoiceSmith$Bill: bill b lies at the labels 100 + 6 * b .. ===== -/
theorem kd_b0 {b : Nat} (h : b < 33) : kd (100 + 6 * b) = 0 := by
  unfold kd; rw [if_neg (by omega), if_pos (by omega), show (100 + 6 * b - 100) % 6 = 0 by omega]; rfl
theorem kd_b1 {b : Nat} (h : b < 33) : kd (100 + 6 * b + 1) = 106 := by
  unfold kd; rw [if_neg (by omega), if_pos (by omega), show (100 + 6 * b + 1 - 100) % 6 = 1 by omega]; rfl
theorem kd_b2 {b : Nat} (h : b < 33) : kd (100 + 6 * b + 2) = 106 := by
  unfold kd; rw [if_neg (by omega), if_pos (by omega), show (100 + 6 * b + 2 - 100) % 6 = 2 by omega]; rfl
theorem kd_b3 {b : Nat} (h : b < 33) : kd (100 + 6 * b + 3) = 106 := by
  unfold kd; rw [if_neg (by omega), if_pos (by omega), show (100 + 6 * b + 3 - 100) % 6 = 3 by omega]; rfl
theorem kd_b4 {b : Nat} (h : b < 33) : kd (100 + 6 * b + 4) = 104 := by
  unfold kd; rw [if_neg (by omega), if_pos (by omega), show (100 + 6 * b + 4 - 100) % 6 = 4 by omega]; rfl
theorem kd_b5 {b : Nat} (h : b < 33) : kd (100 + 6 * b + 5) = 104 := by
  unfold kd; rw [if_neg (by omega), if_pos (by omega), show (100 + 6 * b + 5 - 100) % 6 = 5 by omega]; rfl
/-- what the lines of a bill come to -/
def amS (q p : Nat → Int32) (i : Int32) : Int32 := xget 6 q i * xget 6 p i
def sumA (q p : Nat → Int32) : Nat → Int32
  | 0 => nI 0
  | i + 1 => sumA q p i + amS q p (nI i)
def hun (x : Int32) : Int32 := (x + nI 50) / nI 100
def tmR (k q p r : Nat → Int32) (i : Int32) : Int32 := amS q p i * xget 4 r (xget 6 k i)
def txL (k q p r : Nat → Int32) : Nat → Int32
  | 0 => nI 0
  | i + 1 => txL k q p r i + hun (tmR k q p r (nI i))
def txA (k q p r : Nat → Int32) : Nat → Int32
  | 0 => nI 0
  | i + 1 => txA k q p r i + tmR k q p r (nI i)
def txO (k q p r : Nat → Int32) (kind : Int32) : Nat → Int32
  | 0 => nI 0
  | i + 1 => txO k q p r kind i + (if k i = kind then tmR k q p r (nI i) else nI 0)
def txK (k q p r : Nat → Int32) (n : Nat) : Nat → Int32
  | 0 => nI 0
  | j + 1 => txK k q p r n j + hun (txO k q p r (nI j) n)
def txB (way : Int32) (k q p r : Nat → Int32) (n : Nat) : Int32 := if way = nI 0 then txL k q p r n else if way = nI 1 then txK k q p r n 4 else hun (txA k q p r n)
/-- a bill's rows -/
abbrev bK (st : XS) (b : Nat) : Nat → Int32 := ga st (100 + 6 * b + 1)
abbrev bQ (st : XS) (b : Nat) : Nat → Int32 := ga st (100 + 6 * b + 2)
abbrev bP (st : XS) (b : Nat) : Nat → Int32 := ga st (100 + 6 * b + 3)
abbrev bT (st : XS) (b : Nat) : Nat → Int32 := ga st (100 + 6 * b + 4)
abbrev bH (st : XS) (b : Nat) : Nat → Int32 := ga st (100 + 6 * b + 5)
def numS (st : XS) (b n : Nat) (name idx : Int32) : Int32 :=
  if name = nI 97 then amS (bQ st b) (bP st b) idx else if name = nI 99 then gi st 5 (100 + 6 * b) else if name = nI 100 then gi st 6 (100 + 6 * b) else
  if name = nI 103 then sumA (bQ st b) (bP st b) n + gi st 11 (100 + 6 * b) else if name = nI 105 then idx + nI 1 else if name = nI 107 then xget 6 (bK st b) idx else
  if name = nI 108 then nI n else if name = nI 110 then gi st 4 (100 + 6 * b) else if name = nI 112 then xget 6 (bP st b) idx else if name = nI 113 then xget 6 (bQ st b) idx else
  if name = nI 115 then sumA (bQ st b) (bP st b) n else if name = nI 116 then gi st 11 (100 + 6 * b) else hun (tmR (bK st b) (bQ st b) (bP st b) (bH st b) idx)

set_option maxHeartbeats 4000000 in
set_option maxRecDepth 100000 in
theorem c_X0_hasLine (l : Launch) (D : va_G) (cy : Nat → ClassId) (ad : Nat → Nat) (Ls : List Nat) (st : XS) {b : Nat} (hb33 : b < 33) (hB : ∀ j, j < 6 → 100 + 6 * b + j ∈ Ls) (n : Nat) (hn : n ≤ 6) (hc : gi st 3 (100 + 6 * b) = nI n) (i : Int32) : xMi l yX0_hasLine cX0_hasLine 2 (some .boolean) 0 D cy ad Ls st [.ref (ad (100 + 6 * b)), .int i] (fun r u => r = bi (decide (¬ i < 0 ∧ i < nI n)) ∧ u = st) := by
  intro sz
  refine x_of sz (by decide +kernel) (Nat.le_of_ble_eq_true rfl) ?_
  intro p e s m args below meth c ls hx hb hr hlocks C hsz h hl
  have hl : lv_has ls 2 [(0, .ref (ad (100 + 6 * b))), (1, .int i)] := hl
  obtain ⟨H, eH⟩ : ∃ z, z = s.heap := ⟨_, rfl⟩
  obtain ⟨locs, eL⟩ : ∃ z : List Loc, z = [] := ⟨_, rfl⟩
  rw [← eH, ← eL] at h
  rw [← eH, ← eL]
  clear eH eL
  refine lv_iload_n hx hb dX0_hasLine_0 rfl (lv_at hl 1 rfl) ?_
  refine lv_if_lt (tgt := 16) hx hb dX0_hasLine_1 (by decide) (fun c1 => ?_) (fun c1 => ?_)
  · refine lv_iconst (v := nI 0) hx hb dX0_hasLine_16 (by decide) ?_
    exact x_zret C hr hlocks (by first | rfl | exact bi_zn _ | decide) h ⟨by rw [decide_eq_false (fun q => q.1 c1)]; rfl, rfl⟩ dX0_hasLine_17
  · refine lv_iload_n hx hb dX0_hasLine_4 rfl (lv_at hl 1 rfl) ?_
    refine lv_aload_n hx hb dX0_hasLine_5 rfl (lv_at hl 0 rfl) ?_
    refine gf_X0_27 C h (show 100 + 6 * b ∈ Ls from hB 0 (by decide)) (kd_b0 hb33) dX0_hasLine_6 ?_
    refine x_topi hc ?_
    refine lv_icmp_ge (tgt := 16) hx hb dX0_hasLine_9 (by decide) (fun c9 => ?_) (fun c9 => ?_)
    · refine lv_iconst (v := nI 0) hx hb dX0_hasLine_16 (by decide) ?_
      exact x_zret C hr hlocks (by first | rfl | exact bi_zn _ | decide) h ⟨by rw [decide_eq_false (fun q => i32_lt_nle q.2 c9)]; rfl, rfl⟩ dX0_hasLine_17
    · refine lv_iconst (v := nI 1) hx hb dX0_hasLine_12 (by decide) ?_
      refine lv_goto (tgt := 17) hx hb dX0_hasLine_13 (by decide) ?_
      exact x_zret C hr hlocks (by first | rfl | exact bi_zn _ | decide) h ⟨by rw [decide_eq_true ⟨c1, i32_nle c9⟩]; rfl, rfl⟩ dX0_hasLine_17

set_option maxHeartbeats 4000000 in
set_option maxRecDepth 100000 in
theorem c_X0_addLine (l : Launch) (D : va_G) (cy : Nat → ClassId) (ad : Nat → Nat) (Ls : List Nat) (st : XS) {b : Nat} (hb33 : b < 33) (hB : ∀ j, j < 6 → 100 + 6 * b + j ∈ Ls) (n : Nat) (hn : n < 6) (hc : gi st 3 (100 + 6 * b) = nI n) (a0 a1 a2 : Int32) : xMv l yX0_addLine cX0_addLine 4 1 D cy ad Ls st [.ref (ad (100 + 6 * b)), .int a0, .int a1, .int a2] (fun u => u = si (sa (sa (sa st (100 + 6 * b + 1) (upd (bK st b) n a0)) (100 + 6 * b + 2) (upd (bQ st b) n a1)) (100 + 6 * b + 3) (upd (bP st b) n a2)) 3 (100 + 6 * b) (nI (n + 1))) := by
  intro sz
  refine x_of sz (by decide +kernel) (Nat.le_of_ble_eq_true rfl) ?_
  intro p e s m args below meth c ls hx hb hr hlocks C hsz h hl
  have hl : lv_has ls 4 [(0, .ref (ad (100 + 6 * b))), (1, .int a0), (2, .int a1), (3, .int a2)] := hl
  obtain ⟨H, eH⟩ : ∃ z, z = s.heap := ⟨_, rfl⟩
  obtain ⟨locs, eL⟩ : ∃ z : List Loc, z = [] := ⟨_, rfl⟩
  rw [← eH, ← eL] at h
  rw [← eH, ← eL]
  clear eH eL
  refine lv_aload_n hx hb dX0_addLine_0 rfl (lv_at hl 0 rfl) ?_
  refine gf_X0_9 C h (show 100 + 6 * b ∈ Ls from hB 0 (by decide)) (kd_b0 hb33) (k2 := (100 + 6 * b + 1)) rfl dX0_addLine_1 ?_
  refine lv_aload_n hx hb dX0_addLine_4 rfl (lv_at hl 0 rfl) ?_
  refine gf_X0_27 C h (show 100 + 6 * b ∈ Ls from hB 0 (by decide)) (kd_b0 hb33) dX0_addLine_5 ?_
  refine x_topi hc ?_
  refine lv_iload_n hx hb dX0_addLine_8 rfl (lv_at hl 1 rfl) ?_
  refine cl_X0_31 C h (c_X7_set l D cy ad Ls st (hB 1 (by decide)) (n := 6) (kd_b1 hb33) (by decide) (nI n) a0) (x_room (by omega)) ⟨Nat.zero_le _, Nat.zero_le _⟩ hl.1 (Nat.le_of_ble_eq_true rfl) dX0_addLine_9 (fun u1 H locs hp h => ?_)
  have eu1 := hp; clear hp
  have e3 : gi u1 3 (100 + 6 * b) = nI n := by rw [eu1]; exact hc
  rw [xset_nI (by omega) (by decide)] at eu1
  refine lv_aload_n hx hb dX0_addLine_12 rfl (lv_at hl 0 rfl) ?_
  refine gf_X0_15 C h (show 100 + 6 * b ∈ Ls from hB 0 (by decide)) (kd_b0 hb33) (k2 := (100 + 6 * b + 2)) rfl dX0_addLine_13 ?_
  refine lv_aload_n hx hb dX0_addLine_16 rfl (lv_at hl 0 rfl) ?_
  refine gf_X0_27 C h (show 100 + 6 * b ∈ Ls from hB 0 (by decide)) (kd_b0 hb33) dX0_addLine_17 ?_
  refine x_topi e3 ?_
  refine lv_iload_n hx hb dX0_addLine_20 rfl (lv_at hl 2 rfl) ?_
  refine cl_X0_31 C h (c_X7_set l D cy ad Ls u1 (hB 2 (by decide)) (n := 6) (kd_b2 hb33) (by decide) (nI n) a1) (x_room (by omega)) ⟨Nat.zero_le _, Nat.zero_le _⟩ hl.1 (Nat.le_of_ble_eq_true rfl) dX0_addLine_21 (fun u4 H locs hp h => ?_)
  have eu4 := hp; clear hp
  have e6 : gi u4 3 (100 + 6 * b) = nI n := by rw [eu4]; exact e3
  rw [xset_nI (by omega) (by decide)] at eu4
  refine lv_aload_n hx hb dX0_addLine_24 rfl (lv_at hl 0 rfl) ?_
  refine gf_X0_18 C h (show 100 + 6 * b ∈ Ls from hB 0 (by decide)) (kd_b0 hb33) (k2 := (100 + 6 * b + 3)) rfl dX0_addLine_25 ?_
  refine lv_aload_n hx hb dX0_addLine_28 rfl (lv_at hl 0 rfl) ?_
  refine gf_X0_27 C h (show 100 + 6 * b ∈ Ls from hB 0 (by decide)) (kd_b0 hb33) dX0_addLine_29 ?_
  refine x_topi e6 ?_
  refine lv_iload_n hx hb dX0_addLine_32 rfl (lv_at hl 3 rfl) ?_
  refine cl_X0_31 C h (c_X7_set l D cy ad Ls u4 (hB 3 (by decide)) (n := 6) (kd_b3 hb33) (by decide) (nI n) a2) (x_room (by omega)) ⟨Nat.zero_le _, Nat.zero_le _⟩ hl.1 (Nat.le_of_ble_eq_true rfl) dX0_addLine_33 (fun u7 H locs hp h => ?_)
  have eu7 := hp; clear hp
  have e9 : gi u7 3 (100 + 6 * b) = nI n := by rw [eu7]; exact e6
  rw [xset_nI (by omega) (by decide)] at eu7
  refine lv_aload_n hx hb dX0_addLine_36 rfl (lv_at hl 0 rfl) ?_
  refine lv_dup hx hb dX0_addLine_37 rfl ?_
  refine gf_X0_27 C h (show 100 + 6 * b ∈ Ls from hB 0 (by decide)) (kd_b0 hb33) dX0_addLine_38 ?_
  refine x_topi e9 ?_
  refine lv_iconst (v := nI 1) hx hb dX0_addLine_41 (by decide) ?_
  refine x_addN hx hb dX0_addLine_42 ?_
  refine pf_X0_27 C h (show 100 + 6 * b ∈ Ls from hB 0 (by decide)) (kd_b0 hb33) dX0_addLine_43 (fun H locs u10 eu10 h => ?_)
  have e12 : gi u10 3 (100 + 6 * b) = nI (n + 1) := by rw [eu10, gi_si, if_pos ⟨rfl, rfl⟩]
  exact x_vret C hr hlocks h (by subst_vars; simp only [ga_sa, if_neg (show ¬ (100 + 6 * b + 2 = 100 + 6 * b + 1) by omega), if_neg (show ¬ (100 + 6 * b + 3 = 100 + 6 * b + 1) by omega), if_neg (show ¬ (100 + 6 * b + 3 = 100 + 6 * b + 2) by omega)]) dX0_addLine_46

set_option maxHeartbeats 4000000 in
set_option maxRecDepth 100000 in
theorem c_X0_amountOf (l : Launch) (D : va_G) (cy : Nat → ClassId) (ad : Nat → Nat) (Ls : List Nat) (st : XS) {b : Nat} (hb33 : b < 33) (hB : ∀ j, j < 6 → 100 + 6 * b + j ∈ Ls) (i : Int32) : xMi l yX0_amountOf cX0_amountOf 2 (some .int) 1 D cy ad Ls st [.ref (ad (100 + 6 * b)), .int i] (fun r u => r = amS (bQ st b) (bP st b) i ∧ u = st) := by
  intro sz
  refine x_of sz (by decide +kernel) (Nat.le_of_ble_eq_true rfl) ?_
  intro p e s m args below meth c ls hx hb hr hlocks C hsz h hl
  have hl : lv_has ls 2 [(0, .ref (ad (100 + 6 * b))), (1, .int i)] := hl
  obtain ⟨H, eH⟩ : ∃ z, z = s.heap := ⟨_, rfl⟩
  obtain ⟨locs, eL⟩ : ∃ z : List Loc, z = [] := ⟨_, rfl⟩
  rw [← eH, ← eL] at h
  rw [← eH, ← eL]
  clear eH eL
  refine lv_aload_n hx hb dX0_amountOf_0 rfl (lv_at hl 0 rfl) ?_
  refine gf_X0_15 C h (show 100 + 6 * b ∈ Ls from hB 0 (by decide)) (kd_b0 hb33) (k2 := (100 + 6 * b + 2)) rfl dX0_amountOf_1 ?_
  refine lv_iload_n hx hb dX0_amountOf_4 rfl (lv_at hl 1 rfl) ?_
  refine cl_X0_35 C h (c_X7_get l D cy ad Ls st (hB 2 (by decide)) (n := 6) (kd_b2 hb33) (by decide) i) (x_room (by omega)) ⟨Nat.zero_le _, Nat.zero_le _⟩ hl.1 (Nat.le_of_ble_eq_true rfl) dX0_amountOf_5 (fun r2 u1 H locs hp h => ?_)
  obtain ⟨er2, eu1⟩ := hp; rw [eu1] at h; clear eu1 u1; refine x_topi er2 ?_; clear er2 r2
  refine lv_aload_n hx hb dX0_amountOf_8 rfl (lv_at hl 0 rfl) ?_
  refine gf_X0_18 C h (show 100 + 6 * b ∈ Ls from hB 0 (by decide)) (kd_b0 hb33) (k2 := (100 + 6 * b + 3)) rfl dX0_amountOf_9 ?_
  refine lv_iload_n hx hb dX0_amountOf_12 rfl (lv_at hl 1 rfl) ?_
  refine cl_X0_35 C h (c_X7_get l D cy ad Ls st (hB 3 (by decide)) (n := 6) (kd_b3 hb33) (by decide) i) (x_room (by omega)) ⟨Nat.zero_le _, Nat.zero_le _⟩ hl.1 (Nat.le_of_ble_eq_true rfl) dX0_amountOf_13 (fun r4 u3 H locs hp h => ?_)
  obtain ⟨er4, eu3⟩ := hp; rw [eu3] at h; clear eu3 u3; refine x_topi er4 ?_; clear er4 r4
  refine lv_imul hx hb dX0_amountOf_16 ?_
  exact x_iret C hr hlocks h ⟨rfl, rfl⟩ dX0_amountOf_17

set_option maxHeartbeats 4000000 in
set_option maxRecDepth 100000 in
theorem c_X0_sumOfAmounts (l : Launch) (D : va_G) (cy : Nat → ClassId) (ad : Nat → Nat) (Ls : List Nat) (st : XS) {b : Nat} (hb33 : b < 33) (hB : ∀ j, j < 6 → 100 + 6 * b + j ∈ Ls) (n : Nat) (hn : n ≤ 6) (hc : gi st 3 (100 + 6 * b) = nI n) : xMi l yX0_sumOfAmounts cX0_sumOfAmounts 3 (some .int) 2 D cy ad Ls st [.ref (ad (100 + 6 * b))] (fun r u => r = sumA (bQ st b) (bP st b) n ∧ u = st) := by
  intro sz
  refine x_of sz (by decide +kernel) (Nat.le_of_ble_eq_true rfl) ?_
  intro p e s m args below meth c ls hx hb hr hlocks C hsz h hl
  have hl : lv_has ls 3 [(0, .ref (ad (100 + 6 * b)))] := hl
  obtain ⟨H, eH⟩ : ∃ z, z = s.heap := ⟨_, rfl⟩
  obtain ⟨locs, eL⟩ : ∃ z : List Loc, z = [] := ⟨_, rfl⟩
  rw [← eH, ← eL] at h
  rw [← eH, ← eL]
  clear eH eL
  refine lv_iconst (v := nI 0) hx hb dX0_sumOfAmounts_0 (by decide) ?_
  refine lv_istore_n (lv' := [(1, .int (nI 0)), (0, .ref (ad (100 + 6 * b)))]) hx hb dX0_sumOfAmounts_1 rfl hl (by decide) rfl (fun ls hl => ?_)
  refine lv_iconst (v := nI 0) hx hb dX0_sumOfAmounts_2 (by decide) ?_
  refine lv_istore_n (lv' := [(2, .int (nI 0)), (1, .int (nI 0)), (0, .ref (ad (100 + 6 * b)))]) hx hb dX0_sumOfAmounts_3 rfl hl (by decide) rfl (fun ls hl => ?_)
  have L4 : ∀ (N4 : Nat) (j : Nat) (hj : j ≤ n) (hN : n - j < N4) (H : Heap) (locs : List Loc) (ls : Array Slot), xH D cy ad Ls (XA ad Ls sz) s st H locs → lv_has ls 3 [(0, .ref (ad (100 + 6 * b))), (1, .int (sumA (bQ st b) (bP st b) j)), (2, .int (nI j))] → W p l e (xR 2) s m args below meth c H locs 0 0 (MQ below (va_Qi (fun r u => r = sumA (bQ st b) (bP st b) n ∧ u = st) (fun u => xPost D cy ad Ls (XA ad Ls sz) u) (XA ad Ls sz)) args s 0 0 (XA ad Ls sz)) (F0 m 4 ls []) := by
    intro N4
    induction N4 with
    | zero => intro j hj hN; omega
    | succ N4 ih4 =>
      intro j hj hN H locs ls h hl
      refine lv_iload_n hx hb dX0_sumOfAmounts_4 rfl (lv_at hl 2 rfl) ?_
      refine lv_aload_n hx hb dX0_sumOfAmounts_5 rfl (lv_at hl 0 rfl) ?_
      refine gf_X0_27 C h (show 100 + 6 * b ∈ Ls from hB 0 (by decide)) (kd_b0 hb33) dX0_sumOfAmounts_6 ?_
      refine x_topi hc ?_
      refine x_icmpN_ge (tgt := 26) hx hb dX0_sumOfAmounts_9 (by decide) (by omega) (by omega) (fun c9 => ?_) (fun c9 => ?_)
      · refine lv_iload_n hx hb dX0_sumOfAmounts_26 rfl (lv_at hl 1 rfl) ?_
        exact x_iret C hr hlocks h ⟨by rw [show n = j by omega], rfl⟩ dX0_sumOfAmounts_27
      · refine lv_iload_n hx hb dX0_sumOfAmounts_12 rfl (lv_at hl 1 rfl) ?_
        refine lv_aload_n hx hb dX0_sumOfAmounts_13 rfl (lv_at hl 0 rfl) ?_
        refine lv_iload_n hx hb dX0_sumOfAmounts_14 rfl (lv_at hl 2 rfl) ?_
        refine cl_X0_39 C h (show 100 + 6 * b ∈ Ls from hB 0 (by decide)) (kd_b0 hb33) (c_X0_amountOf l D cy ad Ls st hb33 hB (nI j)) (x_room (by omega)) ⟨Nat.zero_le _, Nat.zero_le _⟩ hl.1 (Nat.le_of_ble_eq_true rfl) dX0_sumOfAmounts_15 (fun r2 u1 H locs hp h => ?_)
        obtain ⟨er2, eu1⟩ := hp; rw [eu1] at h; clear eu1 u1; refine x_topi er2 ?_; clear er2 r2
        refine lv_iadd hx hb dX0_sumOfAmounts_18 ?_
        refine lv_istore_n (lv' := [(1, .int ((sumA (bQ st b) (bP st b) j) + (amS (bQ st b) (bP st b) (nI j)))), (0, .ref (ad (100 + 6 * b))), (2, .int (nI j))]) hx hb dX0_sumOfAmounts_19 rfl hl (by decide) rfl (fun ls hl => ?_)
        refine lv_iinc (v := nI (j + 1)) (lv' := [(2, .int (nI (j + 1))), (1, .int ((sumA (bQ st b) (bP st b) j) + (amS (bQ st b) (bP st b) (nI j)))), (0, .ref (ad (100 + 6 * b)))]) hx hb dX0_sumOfAmounts_20 hl (k := 2) rfl (nI_add _ _) (by decide) rfl (fun ls hl => ?_)
        refine lv_goto (tgt := 4) hx hb dX0_sumOfAmounts_23 (by decide) ?_
        exact ih4 (j + 1) (by omega) (by omega) H locs ls h (lv_sub hl [2, 1, 0] rfl)
  exact L4 (n + 1) 0 (by omega) (by omega) H locs ls h (lv_sub hl [2, 1, 0] rfl)

set_option maxHeartbeats 4000000 in
set_option maxRecDepth 100000 in
theorem c_X0_taxWithNotes (l : Launch) (D : va_G) (cy : Nat → ClassId) (ad : Nat → Nat) (Ls : List Nat) (st : XS) {b : Nat} (hb33 : b < 33) (hB : ∀ j, j < 6 → 100 + 6 * b + j ∈ Ls) : xMi l yX0_taxWithNotes cX0_taxWithNotes 1 (some .int) 0 D cy ad Ls st [.ref (ad (100 + 6 * b))] (fun r u => r = gi st 11 (100 + 6 * b) + gi st 12 (100 + 6 * b) ∧ u = st) := by
  intro sz
  refine x_of sz (by decide +kernel) (Nat.le_of_ble_eq_true rfl) ?_
  intro p e s m args below meth c ls hx hb hr hlocks C hsz h hl
  have hl : lv_has ls 1 [(0, .ref (ad (100 + 6 * b)))] := hl
  obtain ⟨H, eH⟩ : ∃ z, z = s.heap := ⟨_, rfl⟩
  obtain ⟨locs, eL⟩ : ∃ z : List Loc, z = [] := ⟨_, rfl⟩
  rw [← eH, ← eL] at h
  rw [← eH, ← eL]
  clear eH eL
  refine lv_aload_n hx hb dX0_taxWithNotes_0 rfl (lv_at hl 0 rfl) ?_
  refine gf_X0_43 C h (show 100 + 6 * b ∈ Ls from hB 0 (by decide)) (kd_b0 hb33) dX0_taxWithNotes_1 ?_
  refine lv_aload_n hx hb dX0_taxWithNotes_4 rfl (lv_at hl 0 rfl) ?_
  refine gf_X0_46 C h (show 100 + 6 * b ∈ Ls from hB 0 (by decide)) (kd_b0 hb33) dX0_taxWithNotes_5 ?_
  refine lv_iadd hx hb dX0_taxWithNotes_8 ?_
  exact x_iret C hr hlocks h ⟨rfl, rfl⟩ dX0_taxWithNotes_9

set_option maxHeartbeats 4000000 in
set_option maxRecDepth 100000 in
theorem c_X0_hundredth (l : Launch) (D : va_G) (cy : Nat → ClassId) (ad : Nat → Nat) (Ls : List Nat) (st : XS) (x : Int32) : xMi l yX0_hundredth cX0_hundredth 1 (some .int) 0 D cy ad Ls st [.int x] (fun r u => r = hun x ∧ u = st) := by
  intro sz
  refine x_of sz (by decide +kernel) (Nat.le_of_ble_eq_true rfl) ?_
  intro p e s m args below meth c ls hx hb hr hlocks C hsz h hl
  have hl : lv_has ls 1 [(0, .int x)] := hl
  obtain ⟨H, eH⟩ : ∃ z, z = s.heap := ⟨_, rfl⟩
  obtain ⟨locs, eL⟩ : ∃ z : List Loc, z = [] := ⟨_, rfl⟩
  rw [← eH, ← eL] at h
  rw [← eH, ← eL]
  clear eH eL
  refine lv_iload_n hx hb dX0_hundredth_0 rfl (lv_at hl 0 rfl) ?_
  refine lv_bipush (v := nI 50) hx hb dX0_hundredth_1 (by decide) ?_
  refine lv_iadd hx hb dX0_hundredth_3 ?_
  refine lv_bipush (v := nI 100) hx hb dX0_hundredth_4 (by decide) ?_
  refine lv_idiv hx hb dX0_hundredth_6 (by decide) ?_
  exact x_iret C hr hlocks h ⟨rfl, rfl⟩ dX0_hundredth_7

set_option maxHeartbeats 4000000 in
set_option maxRecDepth 100000 in
theorem c_X0_timesRate (l : Launch) (D : va_G) (cy : Nat → ClassId) (ad : Nat → Nat) (Ls : List Nat) (st : XS) {b : Nat} (hb33 : b < 33) (hB : ∀ j, j < 6 → 100 + 6 * b + j ∈ Ls) {R : Nat} (hR : R ∈ Ls) (hkR : kd R = 104) (i : Int32) : xMi l yX0_timesRate cX0_timesRate 3 (some .int) 2 D cy ad Ls st [.ref (ad (100 + 6 * b)), .int i, .ref (ad R)] (fun r u => r = tmR (bK st b) (bQ st b) (bP st b) (ga st R) i ∧ u = st) := by
  intro sz
  refine x_of sz (by decide +kernel) (Nat.le_of_ble_eq_true rfl) ?_
  intro p e s m args below meth c ls hx hb hr hlocks C hsz h hl
  have hl : lv_has ls 3 [(0, .ref (ad (100 + 6 * b))), (1, .int i), (2, .ref (ad R))] := hl
  obtain ⟨H, eH⟩ : ∃ z, z = s.heap := ⟨_, rfl⟩
  obtain ⟨locs, eL⟩ : ∃ z : List Loc, z = [] := ⟨_, rfl⟩
  rw [← eH, ← eL] at h
  rw [← eH, ← eL]
  clear eH eL
  refine lv_aload_n hx hb dX0_timesRate_0 rfl (lv_at hl 0 rfl) ?_
  refine lv_iload_n hx hb dX0_timesRate_1 rfl (lv_at hl 1 rfl) ?_
  refine cl_X0_39 C h (show 100 + 6 * b ∈ Ls from hB 0 (by decide)) (kd_b0 hb33) (c_X0_amountOf l D cy ad Ls st hb33 hB i) (x_room (by omega)) ⟨Nat.zero_le _, Nat.zero_le _⟩ hl.1 (Nat.le_of_ble_eq_true rfl) dX0_timesRate_2 (fun r2 u1 H locs hp h => ?_)
  obtain ⟨er2, eu1⟩ := hp; rw [eu1] at h; clear eu1 u1; refine x_topi er2 ?_; clear er2 r2
  refine lv_aload_n hx hb dX0_timesRate_5 rfl (lv_at hl 2 rfl) ?_
  refine lv_aload_n hx hb dX0_timesRate_6 rfl (lv_at hl 0 rfl) ?_
  refine gf_X0_9 C h (show 100 + 6 * b ∈ Ls from hB 0 (by decide)) (kd_b0 hb33) (k2 := (100 + 6 * b + 1)) rfl dX0_timesRate_7 ?_
  refine lv_iload_n hx hb dX0_timesRate_10 rfl (lv_at hl 1 rfl) ?_
  refine cl_X0_35 C h (c_X7_get l D cy ad Ls st (hB 1 (by decide)) (n := 6) (kd_b1 hb33) (by decide) i) (x_room (by omega)) ⟨Nat.zero_le _, Nat.zero_le _⟩ hl.1 (Nat.le_of_ble_eq_true rfl) dX0_timesRate_11 (fun r4 u3 H locs hp h => ?_)
  obtain ⟨er4, eu3⟩ := hp; rw [eu3] at h; clear eu3 u3; refine x_topi er4 ?_; clear er4 r4
  refine cl_X0_35 C h (c_X7_get l D cy ad Ls st hR (n := 4) hkR (by decide) (xget 6 (ga st (100 + 6 * b + 1)) i)) (x_room (by omega)) ⟨Nat.zero_le _, Nat.zero_le _⟩ hl.1 (Nat.le_of_ble_eq_true rfl) dX0_timesRate_14 (fun r6 u5 H locs hp h => ?_)
  obtain ⟨er6, eu5⟩ := hp; rw [eu5] at h; clear eu5 u5; refine x_topi er6 ?_; clear er6 r6
  refine lv_imul hx hb dX0_timesRate_17 ?_
  exact x_iret C hr hlocks h ⟨rfl, rfl⟩ dX0_timesRate_18

set_option maxHeartbeats 4000000 in
set_option maxRecDepth 100000 in
theorem c_X0_taxByLine (l : Launch) (D : va_G) (cy : Nat → ClassId) (ad : Nat → Nat) (Ls : List Nat) (st : XS) {b : Nat} (hb33 : b < 33) (hB : ∀ j, j < 6 → 100 + 6 * b + j ∈ Ls) {R : Nat} (hR : R ∈ Ls) (hkR : kd R = 104) (n : Nat) (hn : n ≤ 6) (hc : gi st 3 (100 + 6 * b) = nI n) : xMi l yX0_taxByLine cX0_taxByLine 4 (some .int) 3 D cy ad Ls st [.ref (ad (100 + 6 * b)), .ref (ad R)] (fun r u => r = txL (bK st b) (bQ st b) (bP st b) (ga st R) n ∧ u = st) := by
  intro sz
  refine x_of sz (by decide +kernel) (Nat.le_of_ble_eq_true rfl) ?_
  intro p e s m args below meth c ls hx hb hr hlocks C hsz h hl
  have hl : lv_has ls 4 [(0, .ref (ad (100 + 6 * b))), (1, .ref (ad R))] := hl
  obtain ⟨H, eH⟩ : ∃ z, z = s.heap := ⟨_, rfl⟩
  obtain ⟨locs, eL⟩ : ∃ z : List Loc, z = [] := ⟨_, rfl⟩
  rw [← eH, ← eL] at h
  rw [← eH, ← eL]
  clear eH eL
  refine lv_iconst (v := nI 0) hx hb dX0_taxByLine_0 (by decide) ?_
  refine lv_istore_n (lv' := [(2, .int (nI 0)), (0, .ref (ad (100 + 6 * b))), (1, .ref (ad R))]) hx hb dX0_taxByLine_1 rfl hl (by decide) rfl (fun ls hl => ?_)
  refine lv_iconst (v := nI 0) hx hb dX0_taxByLine_2 (by decide) ?_
  refine lv_istore_n (lv' := [(3, .int (nI 0)), (2, .int (nI 0)), (0, .ref (ad (100 + 6 * b))), (1, .ref (ad R))]) hx hb dX0_taxByLine_3 rfl hl (by decide) rfl (fun ls hl => ?_)
  have L4 : ∀ (N4 : Nat) (j : Nat) (hj : j ≤ n) (hN : n - j < N4) (H : Heap) (locs : List Loc) (ls : Array Slot), xH D cy ad Ls (XA ad Ls sz) s st H locs → lv_has ls 4 [(0, .ref (ad (100 + 6 * b))), (1, .ref (ad R)), (2, .int (txL (bK st b) (bQ st b) (bP st b) (ga st R) j)), (3, .int (nI j))] → W p l e (xR 3) s m args below meth c H locs 0 0 (MQ below (va_Qi (fun r u => r = txL (bK st b) (bQ st b) (bP st b) (ga st R) n ∧ u = st) (fun u => xPost D cy ad Ls (XA ad Ls sz) u) (XA ad Ls sz)) args s 0 0 (XA ad Ls sz)) (F0 m 4 ls []) := by
    intro N4
    induction N4 with
    | zero => intro j hj hN; omega
    | succ N4 ih4 =>
      intro j hj hN H locs ls h hl
      refine lv_iload_n hx hb dX0_taxByLine_4 rfl (lv_at hl 3 rfl) ?_
      refine lv_aload_n hx hb dX0_taxByLine_5 rfl (lv_at hl 0 rfl) ?_
      refine gf_X0_27 C h (show 100 + 6 * b ∈ Ls from hB 0 (by decide)) (kd_b0 hb33) dX0_taxByLine_6 ?_
      refine x_topi hc ?_
      refine x_icmpN_ge (tgt := 30) hx hb dX0_taxByLine_9 (by decide) (by omega) (by omega) (fun c9 => ?_) (fun c9 => ?_)
      · refine lv_iload_n hx hb dX0_taxByLine_30 rfl (lv_at hl 2 rfl) ?_
        exact x_iret C hr hlocks h ⟨by rw [show n = j by omega], rfl⟩ dX0_taxByLine_31
      · refine lv_iload_n hx hb dX0_taxByLine_12 rfl (lv_at hl 2 rfl) ?_
        refine lv_aload_n hx hb dX0_taxByLine_13 rfl (lv_at hl 0 rfl) ?_
        refine lv_iload_n hx hb dX0_taxByLine_14 rfl (lv_at hl 3 rfl) ?_
        refine lv_aload_n hx hb dX0_taxByLine_15 rfl (lv_at hl 1 rfl) ?_
        refine cl_X0_62 C h (show 100 + 6 * b ∈ Ls from hB 0 (by decide)) (kd_b0 hb33) (c_X0_timesRate l D cy ad Ls st hb33 hB hR hkR (nI j)) (x_room (by omega)) ⟨Nat.zero_le _, Nat.zero_le _⟩ hl.1 (Nat.le_of_ble_eq_true rfl) dX0_taxByLine_16 (fun r2 u1 H locs hp h => ?_)
        obtain ⟨er2, eu1⟩ := hp; rw [eu1] at h; clear eu1 u1; refine x_topi er2 ?_; clear er2 r2
        refine cl_X0_66 C h (c_X0_hundredth l D cy ad Ls st (tmR (bK st b) (bQ st b) (bP st b) (ga st R) (nI j))) (x_room (by omega)) ⟨Nat.zero_le _, Nat.zero_le _⟩ hl.1 (Nat.le_of_ble_eq_true rfl) dX0_taxByLine_19 (fun r4 u3 H locs hp h => ?_)
        obtain ⟨er4, eu3⟩ := hp; rw [eu3] at h; clear eu3 u3; refine x_topi er4 ?_; clear er4 r4
        refine lv_iadd hx hb dX0_taxByLine_22 ?_
        refine lv_istore_n (lv' := [(2, .int ((txL (bK st b) (bQ st b) (bP st b) (ga st R) j) + (hun (tmR (bK st b) (bQ st b) (bP st b) (ga st R) (nI j))))), (0, .ref (ad (100 + 6 * b))), (1, .ref (ad R)), (3, .int (nI j))]) hx hb dX0_taxByLine_23 rfl hl (by decide) rfl (fun ls hl => ?_)
        refine lv_iinc (v := nI (j + 1)) (lv' := [(3, .int (nI (j + 1))), (2, .int ((txL (bK st b) (bQ st b) (bP st b) (ga st R) j) + (hun (tmR (bK st b) (bQ st b) (bP st b) (ga st R) (nI j))))), (0, .ref (ad (100 + 6 * b))), (1, .ref (ad R))]) hx hb dX0_taxByLine_24 hl (k := 3) rfl (nI_add _ _) (by decide) rfl (fun ls hl => ?_)
        refine lv_goto (tgt := 4) hx hb dX0_taxByLine_27 (by decide) ?_
        exact ih4 (j + 1) (by omega) (by omega) H locs ls h (lv_sub hl [2, 3, 1, 0] rfl)
  exact L4 (n + 1) 0 (by omega) (by omega) H locs ls h (lv_sub hl [2, 3, 1, 0] rfl)

set_option maxHeartbeats 4000000 in
set_option maxRecDepth 100000 in
theorem c_X0_taxByAll (l : Launch) (D : va_G) (cy : Nat → ClassId) (ad : Nat → Nat) (Ls : List Nat) (st : XS) {b : Nat} (hb33 : b < 33) (hB : ∀ j, j < 6 → 100 + 6 * b + j ∈ Ls) {R : Nat} (hR : R ∈ Ls) (hkR : kd R = 104) (n : Nat) (hn : n ≤ 6) (hc : gi st 3 (100 + 6 * b) = nI n) : xMi l yX0_taxByAll cX0_taxByAll 4 (some .int) 3 D cy ad Ls st [.ref (ad (100 + 6 * b)), .ref (ad R)] (fun r u => r = hun (txA (bK st b) (bQ st b) (bP st b) (ga st R) n) ∧ u = st) := by
  intro sz
  refine x_of sz (by decide +kernel) (Nat.le_of_ble_eq_true rfl) ?_
  intro p e s m args below meth c ls hx hb hr hlocks C hsz h hl
  have hl : lv_has ls 4 [(0, .ref (ad (100 + 6 * b))), (1, .ref (ad R))] := hl
  obtain ⟨H, eH⟩ : ∃ z, z = s.heap := ⟨_, rfl⟩
  obtain ⟨locs, eL⟩ : ∃ z : List Loc, z = [] := ⟨_, rfl⟩
  rw [← eH, ← eL] at h
  rw [← eH, ← eL]
  clear eH eL
  refine lv_iconst (v := nI 0) hx hb dX0_taxByAll_0 (by decide) ?_
  refine lv_istore_n (lv' := [(2, .int (nI 0)), (0, .ref (ad (100 + 6 * b))), (1, .ref (ad R))]) hx hb dX0_taxByAll_1 rfl hl (by decide) rfl (fun ls hl => ?_)
  refine lv_iconst (v := nI 0) hx hb dX0_taxByAll_2 (by decide) ?_
  refine lv_istore_n (lv' := [(3, .int (nI 0)), (2, .int (nI 0)), (0, .ref (ad (100 + 6 * b))), (1, .ref (ad R))]) hx hb dX0_taxByAll_3 rfl hl (by decide) rfl (fun ls hl => ?_)
  have L4 : ∀ (N4 : Nat) (j : Nat) (hj : j ≤ n) (hN : n - j < N4) (H : Heap) (locs : List Loc) (ls : Array Slot), xH D cy ad Ls (XA ad Ls sz) s st H locs → lv_has ls 4 [(0, .ref (ad (100 + 6 * b))), (1, .ref (ad R)), (2, .int (txA (bK st b) (bQ st b) (bP st b) (ga st R) j)), (3, .int (nI j))] → W p l e (xR 3) s m args below meth c H locs 0 0 (MQ below (va_Qi (fun r u => r = hun (txA (bK st b) (bQ st b) (bP st b) (ga st R) n) ∧ u = st) (fun u => xPost D cy ad Ls (XA ad Ls sz) u) (XA ad Ls sz)) args s 0 0 (XA ad Ls sz)) (F0 m 4 ls []) := by
    intro N4
    induction N4 with
    | zero => intro j hj hN; omega
    | succ N4 ih4 =>
      intro j hj hN H locs ls h hl
      refine lv_iload_n hx hb dX0_taxByAll_4 rfl (lv_at hl 3 rfl) ?_
      refine lv_aload_n hx hb dX0_taxByAll_5 rfl (lv_at hl 0 rfl) ?_
      refine gf_X0_27 C h (show 100 + 6 * b ∈ Ls from hB 0 (by decide)) (kd_b0 hb33) dX0_taxByAll_6 ?_
      refine x_topi hc ?_
      refine x_icmpN_ge (tgt := 27) hx hb dX0_taxByAll_9 (by decide) (by omega) (by omega) (fun c9 => ?_) (fun c9 => ?_)
      · refine lv_iload_n hx hb dX0_taxByAll_27 rfl (lv_at hl 2 rfl) ?_
        refine cl_X0_66 C h (c_X0_hundredth l D cy ad Ls st (txA (bK st b) (bQ st b) (bP st b) (ga st R) j)) (x_room (by omega)) ⟨Nat.zero_le _, Nat.zero_le _⟩ hl.1 (Nat.le_of_ble_eq_true rfl) dX0_taxByAll_28 (fun r2 u1 H locs hp h => ?_)
        obtain ⟨er2, eu1⟩ := hp; rw [eu1] at h; clear eu1 u1; refine x_topi er2 ?_; clear er2 r2
        exact x_iret C hr hlocks h ⟨by rw [show n = j by omega], rfl⟩ dX0_taxByAll_31
      · refine lv_iload_n hx hb dX0_taxByAll_12 rfl (lv_at hl 2 rfl) ?_
        refine lv_aload_n hx hb dX0_taxByAll_13 rfl (lv_at hl 0 rfl) ?_
        refine lv_iload_n hx hb dX0_taxByAll_14 rfl (lv_at hl 3 rfl) ?_
        refine lv_aload_n hx hb dX0_taxByAll_15 rfl (lv_at hl 1 rfl) ?_
        refine cl_X0_62 C h (show 100 + 6 * b ∈ Ls from hB 0 (by decide)) (kd_b0 hb33) (c_X0_timesRate l D cy ad Ls st hb33 hB hR hkR (nI j)) (x_room (by omega)) ⟨Nat.zero_le _, Nat.zero_le _⟩ hl.1 (Nat.le_of_ble_eq_true rfl) dX0_taxByAll_16 (fun r4 u3 H locs hp h => ?_)
        obtain ⟨er4, eu3⟩ := hp; rw [eu3] at h; clear eu3 u3; refine x_topi er4 ?_; clear er4 r4
        refine lv_iadd hx hb dX0_taxByAll_19 ?_
        refine lv_istore_n (lv' := [(2, .int ((txA (bK st b) (bQ st b) (bP st b) (ga st R) j) + (tmR (bK st b) (bQ st b) (bP st b) (ga st R) (nI j)))), (0, .ref (ad (100 + 6 * b))), (1, .ref (ad R)), (3, .int (nI j))]) hx hb dX0_taxByAll_20 rfl hl (by decide) rfl (fun ls hl => ?_)
        refine lv_iinc (v := nI (j + 1)) (lv' := [(3, .int (nI (j + 1))), (2, .int ((txA (bK st b) (bQ st b) (bP st b) (ga st R) j) + (tmR (bK st b) (bQ st b) (bP st b) (ga st R) (nI j)))), (0, .ref (ad (100 + 6 * b))), (1, .ref (ad R))]) hx hb dX0_taxByAll_21 hl (k := 3) rfl (nI_add _ _) (by decide) rfl (fun ls hl => ?_)
        refine lv_goto (tgt := 4) hx hb dX0_taxByAll_24 (by decide) ?_
        exact ih4 (j + 1) (by omega) (by omega) H locs ls h (lv_sub hl [2, 3, 1, 0] rfl)
  exact L4 (n + 1) 0 (by omega) (by omega) H locs ls h (lv_sub hl [2, 3, 1, 0] rfl)

set_option maxHeartbeats 4000000 in
set_option maxRecDepth 100000 in
theorem c_X0_taxByKind (l : Launch) (D : va_G) (cy : Nat → ClassId) (ad : Nat → Nat) (Ls : List Nat) (st : XS) {b : Nat} (hb33 : b < 33) (hB : ∀ j, j < 6 → 100 + 6 * b + j ∈ Ls) {R : Nat} (hR : R ∈ Ls) (hkR : kd R = 104) (n : Nat) (hn : n ≤ 6) (hc : gi st 3 (100 + 6 * b) = nI n) : xMi l yX0_taxByKind cX0_taxByKind 6 (some .int) 3 D cy ad Ls st [.ref (ad (100 + 6 * b)), .ref (ad R)] (fun r u => r = txK (bK st b) (bQ st b) (bP st b) (ga st R) n 4 ∧ u = st) := by
  intro sz
  refine x_of sz (by decide +kernel) (Nat.le_of_ble_eq_true rfl) ?_
  intro p e s m args below meth c ls hx hb hr hlocks C hsz h hl
  have hl : lv_has ls 6 [(0, .ref (ad (100 + 6 * b))), (1, .ref (ad R))] := hl
  obtain ⟨H, eH⟩ : ∃ z, z = s.heap := ⟨_, rfl⟩
  obtain ⟨locs, eL⟩ : ∃ z : List Loc, z = [] := ⟨_, rfl⟩
  rw [← eH, ← eL] at h
  rw [← eH, ← eL]
  clear eH eL
  refine lv_iconst (v := nI 0) hx hb dX0_taxByKind_0 (by decide) ?_
  refine lv_istore_n (lv' := [(2, .int (nI 0)), (0, .ref (ad (100 + 6 * b))), (1, .ref (ad R))]) hx hb dX0_taxByKind_1 rfl hl (by decide) rfl (fun ls hl => ?_)
  refine lv_iconst (v := nI 0) hx hb dX0_taxByKind_2 (by decide) ?_
  refine lv_istore_n (lv' := [(3, .int (nI 0)), (2, .int (nI 0)), (0, .ref (ad (100 + 6 * b))), (1, .ref (ad R))]) hx hb dX0_taxByKind_3 rfl hl (by decide) rfl (fun ls hl => ?_)
  have L4 : ∀ (N4 : Nat) (j : Nat) (hj : j ≤ 4) (hN : 4 - j < N4) (H : Heap) (locs : List Loc) (ls : Array Slot), xH D cy ad Ls (XA ad Ls sz) s st H locs → lv_has ls 6 [(0, .ref (ad (100 + 6 * b))), (1, .ref (ad R)), (2, .int (txK (bK st b) (bQ st b) (bP st b) (ga st R) n j)), (3, .int (nI j))] → W p l e (xR 3) s m args below meth c H locs 0 0 (MQ below (va_Qi (fun r u => r = txK (bK st b) (bQ st b) (bP st b) (ga st R) n 4 ∧ u = st) (fun u => xPost D cy ad Ls (XA ad Ls sz) u) (XA ad Ls sz)) args s 0 0 (XA ad Ls sz)) (F0 m 4 ls []) := by
    intro N4
    induction N4 with
    | zero => intro j hj hN; omega
    | succ N4 ih4 =>
      intro j hj hN H locs ls h hl
      refine lv_iload_n hx hb dX0_taxByKind_4 rfl (lv_at hl 3 rfl) ?_
      refine lv_iconst (v := nI 4) hx hb dX0_taxByKind_5 (by decide) ?_
      refine x_icmpN_ge (tgt := 73) hx hb dX0_taxByKind_6 (by decide) (by omega) (by omega) (fun c6 => ?_) (fun c6 => ?_)
      · refine lv_iload_n hx hb dX0_taxByKind_73 rfl (lv_at hl 2 rfl) ?_
        exact x_iret C hr hlocks h ⟨by rw [show 4 = j by omega], rfl⟩ dX0_taxByKind_74
      · refine lv_iconst (v := nI 0) hx hb dX0_taxByKind_9 (by decide) ?_
        refine lv_istore (lv' := [(4, .int (nI 0)), (0, .ref (ad (100 + 6 * b))), (1, .ref (ad R)), (2, .int (txK (bK st b) (bQ st b) (bP st b) (ga st R) n j)), (3, .int (nI j))]) hx hb dX0_taxByKind_10 hl (by decide) rfl (fun ls hl => ?_)
        refine lv_iconst (v := nI 0) hx hb dX0_taxByKind_12 (by decide) ?_
        refine lv_istore (lv' := [(5, .int (nI 0)), (4, .int (nI 0)), (0, .ref (ad (100 + 6 * b))), (1, .ref (ad R)), (2, .int (txK (bK st b) (bQ st b) (bP st b) (ga st R) n j)), (3, .int (nI j))]) hx hb dX0_taxByKind_13 hl (by decide) rfl (fun ls hl => ?_)
        have L15 : ∀ (N15 : Nat) (i : Nat) (o : Int32) (ho : o = txO (bK st b) (bQ st b) (bP st b) (ga st R) (nI j) i) (hi : i ≤ n) (hN : n - i < N15) (H : Heap) (locs : List Loc) (ls : Array Slot), xH D cy ad Ls (XA ad Ls sz) s st H locs → lv_has ls 6 [(0, .ref (ad (100 + 6 * b))), (1, .ref (ad R)), (2, .int (txK (bK st b) (bQ st b) (bP st b) (ga st R) n j)), (3, .int (nI j)), (4, .int o), (5, .int (nI i))] → W p l e (xR 3) s m args below meth c H locs 0 0 (MQ below (va_Qi (fun r u => r = txK (bK st b) (bQ st b) (bP st b) (ga st R) n 4 ∧ u = st) (fun u => xPost D cy ad Ls (XA ad Ls sz) u) (XA ad Ls sz)) args s 0 0 (XA ad Ls sz)) (F0 m 15 ls []) := by
          intro N15
          induction N15 with
          | zero => intro i o ho hi hN; omega
          | succ N15 ih15 =>
            intro i o ho hi hN H locs ls h hl
            refine lv_iload hx hb dX0_taxByKind_15 (lv_at hl 5 rfl) ?_
            refine lv_aload_n hx hb dX0_taxByKind_17 rfl (lv_at hl 0 rfl) ?_
            refine gf_X0_27 C h (show 100 + 6 * b ∈ Ls from hB 0 (by decide)) (kd_b0 hb33) dX0_taxByKind_18 ?_
            refine x_topi hc ?_
            refine x_icmpN_ge (tgt := 59) hx hb dX0_taxByKind_21 (by decide) (by omega) (by omega) (fun c21 => ?_) (fun c21 => ?_)
            · rw [show i = n by omega] at ho
              subst ho
              refine lv_iload_n hx hb dX0_taxByKind_59 rfl (lv_at hl 2 rfl) ?_
              refine lv_iload hx hb dX0_taxByKind_60 (lv_at hl 4 rfl) ?_
              refine cl_X0_66 C h (c_X0_hundredth l D cy ad Ls st (txO (bK st b) (bQ st b) (bP st b) (ga st R) (nI j) n)) (x_room (by omega)) ⟨Nat.zero_le _, Nat.zero_le _⟩ hl.1 (Nat.le_of_ble_eq_true rfl) dX0_taxByKind_62 (fun r2 u1 H locs hp h => ?_)
              obtain ⟨er2, eu1⟩ := hp; rw [eu1] at h; clear eu1 u1; refine x_topi er2 ?_; clear er2 r2
              refine lv_iadd hx hb dX0_taxByKind_65 ?_
              refine lv_istore_n (lv' := [(2, .int ((txK (bK st b) (bQ st b) (bP st b) (ga st R) n j) + (hun (txO (bK st b) (bQ st b) (bP st b) (ga st R) (nI j) n)))), (0, .ref (ad (100 + 6 * b))), (1, .ref (ad R)), (3, .int (nI j)), (4, .int (txO (bK st b) (bQ st b) (bP st b) (ga st R) (nI j) n)), (5, .int (nI i))]) hx hb dX0_taxByKind_66 rfl hl (by decide) rfl (fun ls hl => ?_)
              refine lv_iinc (v := nI (j + 1)) (lv' := [(3, .int (nI (j + 1))), (2, .int ((txK (bK st b) (bQ st b) (bP st b) (ga st R) n j) + (hun (txO (bK st b) (bQ st b) (bP st b) (ga st R) (nI j) n)))), (0, .ref (ad (100 + 6 * b))), (1, .ref (ad R)), (4, .int (txO (bK st b) (bQ st b) (bP st b) (ga st R) (nI j) n)), (5, .int (nI i))]) hx hb dX0_taxByKind_67 hl (k := 3) rfl (nI_add _ _) (by decide) rfl (fun ls hl => ?_)
              refine lv_goto (tgt := 4) hx hb dX0_taxByKind_70 (by decide) ?_
              exact ih4 (j + 1) (by omega) (by omega) H locs ls h (lv_sub hl [2, 3, 1, 0] rfl)
            · refine lv_iload hx hb dX0_taxByKind_24 (lv_at hl 4 rfl) ?_
              refine lv_aload_n hx hb dX0_taxByKind_26 rfl (lv_at hl 0 rfl) ?_
              refine gf_X0_9 C h (show 100 + 6 * b ∈ Ls from hB 0 (by decide)) (kd_b0 hb33) (k2 := (100 + 6 * b + 1)) rfl dX0_taxByKind_27 ?_
              refine lv_iload hx hb dX0_taxByKind_30 (lv_at hl 5 rfl) ?_
              refine cl_X0_35 C h (c_X7_get l D cy ad Ls st (hB 1 (by decide)) (n := 6) (kd_b1 hb33) (by decide) (nI i)) (x_room (by omega)) ⟨Nat.zero_le _, Nat.zero_le _⟩ hl.1 (Nat.le_of_ble_eq_true rfl) dX0_taxByKind_32 (fun r4 u3 H locs hp h => ?_)
              obtain ⟨er4, eu3⟩ := hp; rw [eu3] at h; clear eu3 u3; refine x_topi er4 ?_; clear er4 r4
              refine x_topi (y := ga st (100 + 6 * b + 1) i) (xget_nI (by omega) (by decide)) ?_
              refine lv_iload_n hx hb dX0_taxByKind_35 rfl (lv_at hl 3 rfl) ?_
              refine lv_icmp_ne (tgt := 49) hx hb dX0_taxByKind_36 (by decide) (fun c36 => ?_) (fun c36 => ?_)
              · refine lv_iconst (v := nI 0) hx hb dX0_taxByKind_49 (by decide) ?_
                refine lv_iadd hx hb dX0_taxByKind_50 ?_
                refine lv_istore (lv' := [(4, .int (o + (nI 0))), (0, .ref (ad (100 + 6 * b))), (1, .ref (ad R)), (2, .int (txK (bK st b) (bQ st b) (bP st b) (ga st R) n j)), (3, .int (nI j)), (5, .int (nI i))]) hx hb dX0_taxByKind_51 hl (by decide) rfl (fun ls hl => ?_)
                refine lv_iinc (v := nI (i + 1)) (lv' := [(5, .int (nI (i + 1))), (4, .int (o + (nI 0))), (0, .ref (ad (100 + 6 * b))), (1, .ref (ad R)), (2, .int (txK (bK st b) (bQ st b) (bP st b) (ga st R) n j)), (3, .int (nI j))]) hx hb dX0_taxByKind_53 hl (k := 5) rfl (nI_add _ _) (by decide) rfl (fun ls hl => ?_)
                refine lv_goto (tgt := 15) hx hb dX0_taxByKind_56 (by decide) ?_
                exact ih15 (i + 1) _ (by rw [ho, txO, if_neg c36]) (by omega) (by omega) H locs ls h (lv_sub hl [2, 3, 4, 5, 1, 0] rfl)
              · refine lv_aload_n hx hb dX0_taxByKind_39 rfl (lv_at hl 0 rfl) ?_
                refine lv_iload hx hb dX0_taxByKind_40 (lv_at hl 5 rfl) ?_
                refine lv_aload_n hx hb dX0_taxByKind_42 rfl (lv_at hl 1 rfl) ?_
                refine cl_X0_62 C h (show 100 + 6 * b ∈ Ls from hB 0 (by decide)) (kd_b0 hb33) (c_X0_timesRate l D cy ad Ls st hb33 hB hR hkR (nI i)) (x_room (by omega)) ⟨Nat.zero_le _, Nat.zero_le _⟩ hl.1 (Nat.le_of_ble_eq_true rfl) dX0_taxByKind_43 (fun r6 u5 H locs hp h => ?_)
                obtain ⟨er6, eu5⟩ := hp; rw [eu5] at h; clear eu5 u5; refine x_topi er6 ?_; clear er6 r6
                refine lv_goto (tgt := 50) hx hb dX0_taxByKind_46 (by decide) ?_
                refine lv_iadd hx hb dX0_taxByKind_50 ?_
                refine lv_istore (lv' := [(4, .int (o + (tmR (bK st b) (bQ st b) (bP st b) (ga st R) (nI i)))), (0, .ref (ad (100 + 6 * b))), (1, .ref (ad R)), (2, .int (txK (bK st b) (bQ st b) (bP st b) (ga st R) n j)), (3, .int (nI j)), (5, .int (nI i))]) hx hb dX0_taxByKind_51 hl (by decide) rfl (fun ls hl => ?_)
                refine lv_iinc (v := nI (i + 1)) (lv' := [(5, .int (nI (i + 1))), (4, .int (o + (tmR (bK st b) (bQ st b) (bP st b) (ga st R) (nI i)))), (0, .ref (ad (100 + 6 * b))), (1, .ref (ad R)), (2, .int (txK (bK st b) (bQ st b) (bP st b) (ga st R) n j)), (3, .int (nI j))]) hx hb dX0_taxByKind_53 hl (k := 5) rfl (nI_add _ _) (by decide) rfl (fun ls hl => ?_)
                refine lv_goto (tgt := 15) hx hb dX0_taxByKind_56 (by decide) ?_
                exact ih15 (i + 1) _ (by rw [ho, txO, if_pos c36]) (by omega) (by omega) H locs ls h (lv_sub hl [2, 3, 4, 5, 1, 0] rfl)
        exact L15 (n + 1) 0 _ rfl (by omega) (by omega) H locs ls h (lv_sub hl [2, 3, 4, 5, 1, 0] rfl)
  exact L4 5 0 (by omega) (by omega) H locs ls h (lv_sub hl [2, 3, 1, 0] rfl)

set_option maxHeartbeats 4000000 in
set_option maxRecDepth 100000 in
theorem c_X0_taxBy (l : Launch) (D : va_G) (cy : Nat → ClassId) (ad : Nat → Nat) (Ls : List Nat) (st : XS) {b : Nat} (hb33 : b < 33) (hB : ∀ j, j < 6 → 100 + 6 * b + j ∈ Ls) {R : Nat} (hR : R ∈ Ls) (hkR : kd R = 104) (n : Nat) (hn : n ≤ 6) (hc : gi st 3 (100 + 6 * b) = nI n) : xMi l yX0_taxBy cX0_taxBy 2 (some .int) 4 D cy ad Ls st [.ref (ad (100 + 6 * b)), .ref (ad R)] (fun r u => r = txB (gi st 8 (100 + 6 * b)) (bK st b) (bQ st b) (bP st b) (ga st R) n ∧ u = st) := by
  intro sz
  refine x_of sz (by decide +kernel) (Nat.le_of_ble_eq_true rfl) ?_
  intro p e s m args below meth c ls hx hb hr hlocks C hsz h hl
  have hl : lv_has ls 2 [(0, .ref (ad (100 + 6 * b))), (1, .ref (ad R))] := hl
  obtain ⟨H, eH⟩ : ∃ z, z = s.heap := ⟨_, rfl⟩
  obtain ⟨locs, eL⟩ : ∃ z : List Loc, z = [] := ⟨_, rfl⟩
  rw [← eH, ← eL] at h
  rw [← eH, ← eL]
  clear eH eL
  refine lv_aload_n hx hb dX0_taxBy_0 rfl (lv_at hl 0 rfl) ?_
  refine gf_X0_49 C h (show 100 + 6 * b ∈ Ls from hB 0 (by decide)) (kd_b0 hb33) dX0_taxBy_1 ?_
  by_cases g4_0 : gi st 8 (100 + 6 * b) = nI 0
  · refine x_topi g4_0 ?_
    refine lv_lookup (tgt := 32) (off := 28) hx hb dX0_taxBy_4 (by decide) (by decide) (by decide) ?_
    refine lv_aload_n hx hb dX0_taxBy_32 rfl (lv_at hl 0 rfl) ?_
    refine lv_aload_n hx hb dX0_taxBy_33 rfl (lv_at hl 1 rfl) ?_
    refine cl_X0_52 C h (show 100 + 6 * b ∈ Ls from hB 0 (by decide)) (kd_b0 hb33) (c_X0_taxByLine l D cy ad Ls st hb33 hB hR hkR n hn hc) (x_room (by omega)) ⟨Nat.zero_le _, Nat.zero_le _⟩ hl.1 (Nat.le_of_ble_eq_true rfl) dX0_taxBy_34 (fun r2 u1 H locs hp h => ?_)
    obtain ⟨er2, eu1⟩ := hp; rw [eu1] at h; clear eu1 u1; refine x_topi er2 ?_; clear er2 r2
    exact x_iret C hr hlocks h ⟨by rw [txB, if_pos g4_0], rfl⟩ dX0_taxBy_37
  by_cases g4_1 : gi st 8 (100 + 6 * b) = nI 1
  · refine x_topi g4_1 ?_
    refine lv_lookup (tgt := 38) (off := 34) hx hb dX0_taxBy_4 (by decide) (by decide) (by decide) ?_
    refine lv_aload_n hx hb dX0_taxBy_38 rfl (lv_at hl 0 rfl) ?_
    refine lv_aload_n hx hb dX0_taxBy_39 rfl (lv_at hl 1 rfl) ?_
    refine cl_X0_56 C h (show 100 + 6 * b ∈ Ls from hB 0 (by decide)) (kd_b0 hb33) (c_X0_taxByKind l D cy ad Ls st hb33 hB hR hkR n hn hc) (x_room (by omega)) ⟨Nat.zero_le _, Nat.zero_le _⟩ hl.1 (Nat.le_of_ble_eq_true rfl) dX0_taxBy_40 (fun r4 u3 H locs hp h => ?_)
    obtain ⟨er4, eu3⟩ := hp; rw [eu3] at h; clear eu3 u3; refine x_topi er4 ?_; clear er4 r4
    exact x_iret C hr hlocks h ⟨by rw [txB, if_neg g4_0, if_pos g4_1], rfl⟩ dX0_taxBy_43
  refine lv_lookup (tgt := 44) (off := 40) hx hb dX0_taxBy_4 (by decide) (by show Op.lookupswitch.offset [(0, 28), (1, 34)] 40 _ = 40; rw [lv_osw g4_0 (by decide), lv_osw g4_1 (by decide)]; rfl) (by decide) ?_
  refine lv_aload_n hx hb dX0_taxBy_44 rfl (lv_at hl 0 rfl) ?_
  refine lv_aload_n hx hb dX0_taxBy_45 rfl (lv_at hl 1 rfl) ?_
  refine cl_X0_59 C h (show 100 + 6 * b ∈ Ls from hB 0 (by decide)) (kd_b0 hb33) (c_X0_taxByAll l D cy ad Ls st hb33 hB hR hkR n hn hc) (x_room (by omega)) ⟨Nat.zero_le _, Nat.zero_le _⟩ hl.1 (Nat.le_of_ble_eq_true rfl) dX0_taxBy_46 (fun r6 u5 H locs hp h => ?_)
  obtain ⟨er6, eu5⟩ := hp; rw [eu5] at h; clear eu5 u5; refine x_topi er6 ?_; clear er6 r6
  exact x_iret C hr hlocks h ⟨by rw [txB, if_neg g4_0, if_neg g4_1], rfl⟩ dX0_taxBy_49

set_option maxHeartbeats 4000000 in
set_option maxRecDepth 100000 in
theorem c_X0_numberNamed (l : Launch) (D : va_G) (cy : Nat → ClassId) (ad : Nat → Nat) (Ls : List Nat) (st : XS) {b : Nat} (hb33 : b < 33) (hB : ∀ j, j < 6 → 100 + 6 * b + j ∈ Ls) (n : Nat) (hn : n ≤ 6) (hc : gi st 3 (100 + 6 * b) = nI n) (name idx : Int32) : xMi l yX0_numberNamed cX0_numberNamed 3 (some .int) 3 D cy ad Ls st [.ref (ad (100 + 6 * b)), .int name, .int idx] (fun r u => r = numS st b n name idx ∧ u = st) := by
  intro sz
  refine x_of sz (by decide +kernel) (Nat.le_of_ble_eq_true rfl) ?_
  intro p e s m args below meth c ls hx hb hr hlocks C hsz h hl
  have hl : lv_has ls 3 [(0, .ref (ad (100 + 6 * b))), (1, .int name), (2, .int idx)] := hl
  obtain ⟨H, eH⟩ : ∃ z, z = s.heap := ⟨_, rfl⟩
  obtain ⟨locs, eL⟩ : ∃ z : List Loc, z = [] := ⟨_, rfl⟩
  rw [← eH, ← eL] at h
  rw [← eH, ← eL]
  clear eH eL
  refine lv_iload_n hx hb dX0_numberNamed_0 rfl (lv_at hl 1 rfl) ?_
  by_cases g1_97 : name = nI 97
  · refine x_topi g1_97 ?_
    refine lv_tableIn (tgt := 167) (off := 166) hx hb dX0_numberNamed_1 (by decide) (by decide) (by decide) (by decide) ?_
    refine lv_aload_n hx hb dX0_numberNamed_167 rfl (lv_at hl 0 rfl) ?_
    refine lv_iload_n hx hb dX0_numberNamed_168 rfl (lv_at hl 2 rfl) ?_
    refine cl_X0_39 C h (show 100 + 6 * b ∈ Ls from hB 0 (by decide)) (kd_b0 hb33) (c_X0_amountOf l D cy ad Ls st hb33 hB idx) (x_room (by omega)) ⟨Nat.zero_le _, Nat.zero_le _⟩ hl.1 (Nat.le_of_ble_eq_true rfl) dX0_numberNamed_169 (fun r2 u1 H locs hp h => ?_)
    obtain ⟨er2, eu1⟩ := hp; rw [eu1] at h; clear eu1 u1; refine x_topi er2 ?_; clear er2 r2
    exact x_iret C hr hlocks h ⟨by unfold numS; rw [if_pos g1_97], rfl⟩ dX0_numberNamed_172
  by_cases g1_99 : name = nI 99
  · refine x_topi g1_99 ?_
    refine lv_tableIn (tgt := 101) (off := 100) hx hb dX0_numberNamed_1 (by decide) (by decide) (by decide) (by decide) ?_
    refine lv_aload_n hx hb dX0_numberNamed_101 rfl (lv_at hl 0 rfl) ?_
    refine gf_X0_72 C h (show 100 + 6 * b ∈ Ls from hB 0 (by decide)) (kd_b0 hb33) dX0_numberNamed_102 ?_
    exact x_iret C hr hlocks h ⟨by unfold numS; rw [if_neg (by rw [g1_99]; decide), if_pos g1_99], rfl⟩ dX0_numberNamed_105
  by_cases g1_100 : name = nI 100
  · refine x_topi g1_100 ?_
    refine lv_tableIn (tgt := 106) (off := 105) hx hb dX0_numberNamed_1 (by decide) (by decide) (by decide) (by decide) ?_
    refine lv_aload_n hx hb dX0_numberNamed_106 rfl (lv_at hl 0 rfl) ?_
    refine gf_X0_75 C h (show 100 + 6 * b ∈ Ls from hB 0 (by decide)) (kd_b0 hb33) dX0_numberNamed_107 ?_
    exact x_iret C hr hlocks h ⟨by unfold numS; rw [if_neg (by rw [g1_100]; decide), if_neg (by rw [g1_100]; decide), if_pos g1_100], rfl⟩ dX0_numberNamed_110
  by_cases g1_103 : name = nI 103
  · refine x_topi g1_103 ?_
    refine lv_tableIn (tgt := 126) (off := 125) hx hb dX0_numberNamed_1 (by decide) (by decide) (by decide) (by decide) ?_
    refine lv_aload_n hx hb dX0_numberNamed_126 rfl (lv_at hl 0 rfl) ?_
    refine cl_X0_78 C h (show 100 + 6 * b ∈ Ls from hB 0 (by decide)) (kd_b0 hb33) (c_X0_sumOfAmounts l D cy ad Ls st hb33 hB n hn hc) (x_room (by omega)) ⟨Nat.zero_le _, Nat.zero_le _⟩ hl.1 (Nat.le_of_ble_eq_true rfl) dX0_numberNamed_127 (fun r4 u3 H locs hp h => ?_)
    obtain ⟨er4, eu3⟩ := hp; rw [eu3] at h; clear eu3 u3; refine x_topi er4 ?_; clear er4 r4
    refine lv_aload_n hx hb dX0_numberNamed_130 rfl (lv_at hl 0 rfl) ?_
    refine gf_X0_43 C h (show 100 + 6 * b ∈ Ls from hB 0 (by decide)) (kd_b0 hb33) dX0_numberNamed_131 ?_
    refine lv_iadd hx hb dX0_numberNamed_134 ?_
    exact x_iret C hr hlocks h ⟨by unfold numS; rw [if_neg (by rw [g1_103]; decide), if_neg (by rw [g1_103]; decide), if_neg (by rw [g1_103]; decide), if_pos g1_103], rfl⟩ dX0_numberNamed_135
  by_cases g1_105 : name = nI 105
  · refine x_topi g1_105 ?_
    refine lv_tableIn (tgt := 136) (off := 135) hx hb dX0_numberNamed_1 (by decide) (by decide) (by decide) (by decide) ?_
    refine lv_iload_n hx hb dX0_numberNamed_136 rfl (lv_at hl 2 rfl) ?_
    refine lv_iconst (v := nI 1) hx hb dX0_numberNamed_137 (by decide) ?_
    refine lv_iadd hx hb dX0_numberNamed_138 ?_
    exact x_iret C hr hlocks h ⟨by unfold numS; rw [if_neg (by rw [g1_105]; decide), if_neg (by rw [g1_105]; decide), if_neg (by rw [g1_105]; decide), if_neg (by rw [g1_105]; decide), if_pos g1_105], rfl⟩ dX0_numberNamed_139
  by_cases g1_107 : name = nI 107
  · refine x_topi g1_107 ?_
    refine lv_tableIn (tgt := 140) (off := 139) hx hb dX0_numberNamed_1 (by decide) (by decide) (by decide) (by decide) ?_
    refine lv_aload_n hx hb dX0_numberNamed_140 rfl (lv_at hl 0 rfl) ?_
    refine gf_X0_9 C h (show 100 + 6 * b ∈ Ls from hB 0 (by decide)) (kd_b0 hb33) (k2 := (100 + 6 * b + 1)) rfl dX0_numberNamed_141 ?_
    refine lv_iload_n hx hb dX0_numberNamed_144 rfl (lv_at hl 2 rfl) ?_
    refine cl_X0_35 C h (c_X7_get l D cy ad Ls st (hB 1 (by decide)) (n := 6) (kd_b1 hb33) (by decide) idx) (x_room (by omega)) ⟨Nat.zero_le _, Nat.zero_le _⟩ hl.1 (Nat.le_of_ble_eq_true rfl) dX0_numberNamed_145 (fun r6 u5 H locs hp h => ?_)
    obtain ⟨er6, eu5⟩ := hp; rw [eu5] at h; clear eu5 u5; refine x_topi er6 ?_; clear er6 r6
    exact x_iret C hr hlocks h ⟨by unfold numS; rw [if_neg (by rw [g1_107]; decide), if_neg (by rw [g1_107]; decide), if_neg (by rw [g1_107]; decide), if_neg (by rw [g1_107]; decide), if_neg (by rw [g1_107]; decide), if_pos g1_107], rfl⟩ dX0_numberNamed_148
  by_cases g1_108 : name = nI 108
  · refine x_topi g1_108 ?_
    refine lv_tableIn (tgt := 111) (off := 110) hx hb dX0_numberNamed_1 (by decide) (by decide) (by decide) (by decide) ?_
    refine lv_aload_n hx hb dX0_numberNamed_111 rfl (lv_at hl 0 rfl) ?_
    refine gf_X0_27 C h (show 100 + 6 * b ∈ Ls from hB 0 (by decide)) (kd_b0 hb33) dX0_numberNamed_112 ?_
    refine x_topi hc ?_
    exact x_iret C hr hlocks h ⟨by unfold numS; rw [if_neg (by rw [g1_108]; decide), if_neg (by rw [g1_108]; decide), if_neg (by rw [g1_108]; decide), if_neg (by rw [g1_108]; decide), if_neg (by rw [g1_108]; decide), if_neg (by rw [g1_108]; decide), if_pos g1_108], rfl⟩ dX0_numberNamed_115
  by_cases g1_110 : name = nI 110
  · refine x_topi g1_110 ?_
    refine lv_tableIn (tgt := 96) (off := 95) hx hb dX0_numberNamed_1 (by decide) (by decide) (by decide) (by decide) ?_
    refine lv_aload_n hx hb dX0_numberNamed_96 rfl (lv_at hl 0 rfl) ?_
    refine gf_X0_69 C h (show 100 + 6 * b ∈ Ls from hB 0 (by decide)) (kd_b0 hb33) dX0_numberNamed_97 ?_
    exact x_iret C hr hlocks h ⟨by unfold numS; rw [if_neg (by rw [g1_110]; decide), if_neg (by rw [g1_110]; decide), if_neg (by rw [g1_110]; decide), if_neg (by rw [g1_110]; decide), if_neg (by rw [g1_110]; decide), if_neg (by rw [g1_110]; decide), if_neg (by rw [g1_110]; decide), if_pos g1_110], rfl⟩ dX0_numberNamed_100
  by_cases g1_112 : name = nI 112
  · refine x_topi g1_112 ?_
    refine lv_tableIn (tgt := 158) (off := 157) hx hb dX0_numberNamed_1 (by decide) (by decide) (by decide) (by decide) ?_
    refine lv_aload_n hx hb dX0_numberNamed_158 rfl (lv_at hl 0 rfl) ?_
    refine gf_X0_18 C h (show 100 + 6 * b ∈ Ls from hB 0 (by decide)) (kd_b0 hb33) (k2 := (100 + 6 * b + 3)) rfl dX0_numberNamed_159 ?_
    refine lv_iload_n hx hb dX0_numberNamed_162 rfl (lv_at hl 2 rfl) ?_
    refine cl_X0_35 C h (c_X7_get l D cy ad Ls st (hB 3 (by decide)) (n := 6) (kd_b3 hb33) (by decide) idx) (x_room (by omega)) ⟨Nat.zero_le _, Nat.zero_le _⟩ hl.1 (Nat.le_of_ble_eq_true rfl) dX0_numberNamed_163 (fun r8 u7 H locs hp h => ?_)
    obtain ⟨er8, eu7⟩ := hp; rw [eu7] at h; clear eu7 u7; refine x_topi er8 ?_; clear er8 r8
    exact x_iret C hr hlocks h ⟨by unfold numS; rw [if_neg (by rw [g1_112]; decide), if_neg (by rw [g1_112]; decide), if_neg (by rw [g1_112]; decide), if_neg (by rw [g1_112]; decide), if_neg (by rw [g1_112]; decide), if_neg (by rw [g1_112]; decide), if_neg (by rw [g1_112]; decide), if_neg (by rw [g1_112]; decide), if_pos g1_112], rfl⟩ dX0_numberNamed_166
  by_cases g1_113 : name = nI 113
  · refine x_topi g1_113 ?_
    refine lv_tableIn (tgt := 149) (off := 148) hx hb dX0_numberNamed_1 (by decide) (by decide) (by decide) (by decide) ?_
    refine lv_aload_n hx hb dX0_numberNamed_149 rfl (lv_at hl 0 rfl) ?_
    refine gf_X0_15 C h (show 100 + 6 * b ∈ Ls from hB 0 (by decide)) (kd_b0 hb33) (k2 := (100 + 6 * b + 2)) rfl dX0_numberNamed_150 ?_
    refine lv_iload_n hx hb dX0_numberNamed_153 rfl (lv_at hl 2 rfl) ?_
    refine cl_X0_35 C h (c_X7_get l D cy ad Ls st (hB 2 (by decide)) (n := 6) (kd_b2 hb33) (by decide) idx) (x_room (by omega)) ⟨Nat.zero_le _, Nat.zero_le _⟩ hl.1 (Nat.le_of_ble_eq_true rfl) dX0_numberNamed_154 (fun r10 u9 H locs hp h => ?_)
    obtain ⟨er10, eu9⟩ := hp; rw [eu9] at h; clear eu9 u9; refine x_topi er10 ?_; clear er10 r10
    exact x_iret C hr hlocks h ⟨by unfold numS; rw [if_neg (by rw [g1_113]; decide), if_neg (by rw [g1_113]; decide), if_neg (by rw [g1_113]; decide), if_neg (by rw [g1_113]; decide), if_neg (by rw [g1_113]; decide), if_neg (by rw [g1_113]; decide), if_neg (by rw [g1_113]; decide), if_neg (by rw [g1_113]; decide), if_neg (by rw [g1_113]; decide), if_pos g1_113], rfl⟩ dX0_numberNamed_157
  by_cases g1_115 : name = nI 115
  · refine x_topi g1_115 ?_
    refine lv_tableIn (tgt := 116) (off := 115) hx hb dX0_numberNamed_1 (by decide) (by decide) (by decide) (by decide) ?_
    refine lv_aload_n hx hb dX0_numberNamed_116 rfl (lv_at hl 0 rfl) ?_
    refine cl_X0_78 C h (show 100 + 6 * b ∈ Ls from hB 0 (by decide)) (kd_b0 hb33) (c_X0_sumOfAmounts l D cy ad Ls st hb33 hB n hn hc) (x_room (by omega)) ⟨Nat.zero_le _, Nat.zero_le _⟩ hl.1 (Nat.le_of_ble_eq_true rfl) dX0_numberNamed_117 (fun r12 u11 H locs hp h => ?_)
    obtain ⟨er12, eu11⟩ := hp; rw [eu11] at h; clear eu11 u11; refine x_topi er12 ?_; clear er12 r12
    exact x_iret C hr hlocks h ⟨by unfold numS; rw [if_neg (by rw [g1_115]; decide), if_neg (by rw [g1_115]; decide), if_neg (by rw [g1_115]; decide), if_neg (by rw [g1_115]; decide), if_neg (by rw [g1_115]; decide), if_neg (by rw [g1_115]; decide), if_neg (by rw [g1_115]; decide), if_neg (by rw [g1_115]; decide), if_neg (by rw [g1_115]; decide), if_neg (by rw [g1_115]; decide), if_pos g1_115], rfl⟩ dX0_numberNamed_120
  by_cases g1_116 : name = nI 116
  · refine x_topi g1_116 ?_
    refine lv_tableIn (tgt := 121) (off := 120) hx hb dX0_numberNamed_1 (by decide) (by decide) (by decide) (by decide) ?_
    refine lv_aload_n hx hb dX0_numberNamed_121 rfl (lv_at hl 0 rfl) ?_
    refine gf_X0_43 C h (show 100 + 6 * b ∈ Ls from hB 0 (by decide)) (kd_b0 hb33) dX0_numberNamed_122 ?_
    exact x_iret C hr hlocks h ⟨by unfold numS; rw [if_neg (by rw [g1_116]; decide), if_neg (by rw [g1_116]; decide), if_neg (by rw [g1_116]; decide), if_neg (by rw [g1_116]; decide), if_neg (by rw [g1_116]; decide), if_neg (by rw [g1_116]; decide), if_neg (by rw [g1_116]; decide), if_neg (by rw [g1_116]; decide), if_neg (by rw [g1_116]; decide), if_neg (by rw [g1_116]; decide), if_neg (by rw [g1_116]; decide), if_pos g1_116], rfl⟩ dX0_numberNamed_125
  refine x_tsw (tgt := 173) hx hb dX0_numberNamed_1 (by decide) (by decide) ?_ ?_
  · intro i hi; rcases (show i = 0 ∨ i = 1 ∨ i = 2 ∨ i = 3 ∨ i = 4 ∨ i = 5 ∨ i = 6 ∨ i = 7 ∨ i = 8 ∨ i = 9 ∨ i = 10 ∨ i = 11 ∨ i = 12 ∨ i = 13 ∨ i = 14 ∨ i = 15 ∨ i = 16 ∨ i = 17 ∨ i = 18 ∨ i = 19 by have hi9 : i < 20 := hi; omega) with rfl | rfl | rfl | rfl | rfl | rfl | rfl | rfl | rfl | rfl | rfl | rfl | rfl | rfl | rfl | rfl | rfl | rfl | rfl | rfl
    all_goals first | (intro hne; exact absurd rfl hne) | (intro _ q9; first | exact g1_97 (x_toInt q9 (by decide)) | exact g1_99 (x_toInt q9 (by decide)) | exact g1_100 (x_toInt q9 (by decide)) | exact g1_103 (x_toInt q9 (by decide)) | exact g1_105 (x_toInt q9 (by decide)) | exact g1_107 (x_toInt q9 (by decide)) | exact g1_108 (x_toInt q9 (by decide)) | exact g1_110 (x_toInt q9 (by decide)) | exact g1_112 (x_toInt q9 (by decide)) | exact g1_113 (x_toInt q9 (by decide)) | exact g1_115 (x_toInt q9 (by decide)) | exact g1_116 (x_toInt q9 (by decide)))
  refine lv_aload_n hx hb dX0_numberNamed_173 rfl (lv_at hl 0 rfl) ?_
  refine lv_iload_n hx hb dX0_numberNamed_174 rfl (lv_at hl 2 rfl) ?_
  refine lv_aload_n hx hb dX0_numberNamed_175 rfl (lv_at hl 0 rfl) ?_
  refine gf_X0_24 C h (show 100 + 6 * b ∈ Ls from hB 0 (by decide)) (kd_b0 hb33) (k2 := (100 + 6 * b + 5)) rfl dX0_numberNamed_176 ?_
  refine cl_X0_62 C h (show 100 + 6 * b ∈ Ls from hB 0 (by decide)) (kd_b0 hb33) (c_X0_timesRate l D cy ad Ls st hb33 hB (hB 5 (by decide)) (kd_b5 hb33) idx) (x_room (by omega)) ⟨Nat.zero_le _, Nat.zero_le _⟩ hl.1 (Nat.le_of_ble_eq_true rfl) dX0_numberNamed_179 (fun r14 u13 H locs hp h => ?_)
  obtain ⟨er14, eu13⟩ := hp; rw [eu13] at h; clear eu13 u13; refine x_topi er14 ?_; clear er14 r14
  refine cl_X0_66 C h (c_X0_hundredth l D cy ad Ls st (tmR (bK st b) (bQ st b) (bP st b) (ga st (100 + 6 * b + 5)) idx)) (x_room (by omega)) ⟨Nat.zero_le _, Nat.zero_le _⟩ hl.1 (Nat.le_of_ble_eq_true rfl) dX0_numberNamed_182 (fun r16 u15 H locs hp h => ?_)
  obtain ⟨er16, eu15⟩ := hp; rw [eu15] at h; clear eu15 u15; refine x_topi er16 ?_; clear er16 r16
  exact x_iret C hr hlocks h ⟨by unfold numS; rw [if_neg g1_97, if_neg g1_99, if_neg g1_100, if_neg g1_103, if_neg g1_105, if_neg g1_107, if_neg g1_108, if_neg g1_110, if_neg g1_112, if_neg g1_113, if_neg g1_115, if_neg g1_116], rfl⟩ dX0_numberNamed_185
