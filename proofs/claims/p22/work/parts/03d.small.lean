/-! ===== Rates.fill.., Form, Ledger, Page ===== -/
/-- a row whose first i places are g's -/
def fup (f g : Nat → Int32) : Nat → Nat → Int32
  | 0 => f
  | i + 1 => upd (fup f g i) i (g i)
theorem fup_in {f g : Nat → Int32} {n j : Nat} (h : j < n) : fup f g n j = g j := by
  induction n with
  | zero => omega
  | succ n ih =>
    show upd (fup f g n) n (g n) j = g j
    unfold upd
    by_cases hj : j = n
    · rw [if_pos hj, hj]
    · rw [if_neg hj]; exact ih (by omega)
theorem fup_out {f g : Nat → Int32} {n j : Nat} (h : n ≤ j) : fup f g n j = f j := by
  induction n with
  | zero => rfl
  | succ n ih =>
    show upd (fup f g n) n (g n) j = f j
    unfold upd
    rw [if_neg (by omega)]; exact ih (by omega)
theorem sa_sa (st : XS) (k : Nat) (f g : Nat → Int32) : sa (sa st k f) k g = sa st k g := by
  unfold sa
  have e : xu1 (xu1 st.2.2.2.1 k f) k g = xu1 st.2.2.2.1 k g := by
    funext j; unfold xu1; by_cases h : j = k
    · rw [if_pos h, if_pos h]
    · rw [if_neg h, if_neg h, if_neg h]
  show (st.1, st.2.1, st.2.2.1, xu1 (xu1 st.2.2.2.1 k f) k g, st.2.2.2.2) = _
  rw [e]
theorem knS_sa {st : XS} {q : Nat} {f : Nat → Int32} {n : Nat} {a b c : Int32} (h : kd q = 104) : knS (sa st q f) n a b c = knS st n a b c := by
  have h1 : ¬ 13 = q := fun z => by subst z; exact absurd h (by decide)
  have h2 : ¬ 14 = q := fun z => by subst z; exact absurd h (by decide)
  have h3 : ¬ 16 = q := fun z => by subst z; exact absurd h (by decide)
  unfold knS
  rw [ga_sa, ga_sa, ga_sa, if_neg h1, if_neg h2, if_neg h3]
/-- the hundredths of a telling, 0 for none -/
def rtOf (hu : Nat → Int32) (t : Int32) : Int32 := if t = -1 then nI 0 else xget 60 hu t
theorem kd_f0 {g : Nat} (h : g < 40) : kd (300 + 4 * g) = 1 := by
  unfold kd; rw [if_neg (by omega), if_neg (by omega), show (300 + 4 * g - 300) % 4 = 0 by omega]; rfl
theorem kd_f1 {g : Nat} (h : g < 40) : kd (300 + 4 * g + 1) = 260 := by
  unfold kd; rw [if_neg (by omega), if_neg (by omega), show (300 + 4 * g + 1 - 300) % 4 = 1 by omega]; rfl
theorem kd_f2 {g : Nat} (h : g < 40) : kd (300 + 4 * g + 2) = 260 := by
  unfold kd; rw [if_neg (by omega), if_neg (by omega), show (300 + 4 * g + 2 - 300) % 4 = 2 by omega]; rfl
theorem kd_f3 {g : Nat} (h : g < 40) : kd (300 + 4 * g + 3) = 260 := by
  unfold kd; rw [if_neg (by omega), if_neg (by omega), show (300 + 4 * g + 3 - 300) % 4 = 3 by omega]; rfl
/-- how many signs are packed in n, in k bytes at most, c of them gone by -/
def csF : Nat → Nat → Nat → Int32
  | 0, _, _ => nI 8
  | k + 1, n, c => if n % 256 = 0 then (if n = 0 then nI c else -1) else if n % 256 < 32 ∨ 126 < n % 256 then -1 else csF k (n / 256) (c + 1)
/-- signs put behind m others -/
def apF (f : Nat → Int32) (m n : Nat) : Nat → Nat → Int32
  | 0 => f
  | i + 1 => xset 160 (apF f m n i) (nI (m + i)) (nI (n / 256 ^ i % 256))
/-- the sign at a place, 0 behind the end -/
def sgF (f : Nat → Int32) (m : Nat) (i : Int32) : Int32 := if nI m ≤ i then nI 0 else (xget 160 f i).toUInt32 % 65536 |>.toInt32

set_option maxHeartbeats 4000000 in
set_option maxRecDepth 100000 in
theorem c_X4_fillTellings (l : Launch) (D : va_G) (cy : Nat → ClassId) (ad : Nat → Nat) (Ls : List Nat) (st : XS) (hL : ∀ k, xC k = true → k ∈ Ls) {q : Nat} (hq : q ∈ Ls) (hkq : kd q = 104) (n : Nat) (hn60 : n ≤ 60) (hc : gi st 4 4 = nI n) (place day : Int32) : xMv l yX4_fillTellings cX4_fillTellings 5 2 D cy ad Ls st [.ref (ad 4), .int place, .int day, .ref (ad q)] (fun u => u = sa st q (fup (ga st q) (fun k => knS st n place (nI k) day) 4)) := by
  intro sz
  refine x_of sz (by decide +kernel) (Nat.le_of_ble_eq_true rfl) ?_
  intro p e s m args below meth c ls hx hb hr hlocks C hsz h hl
  have hl : lv_has ls 5 [(0, .ref (ad 4)), (1, .int place), (2, .int day), (3, .ref (ad q))] := hl
  obtain ⟨H, eH⟩ : ∃ z, z = s.heap := ⟨_, rfl⟩
  obtain ⟨locs, eL⟩ : ∃ z : List Loc, z = [] := ⟨_, rfl⟩
  rw [← eH, ← eL] at h
  rw [← eH, ← eL]
  clear eH eL
  refine lv_iconst (v := nI 0) hx hb dX4_fillTellings_0 (by decide) ?_
  refine lv_istore (lv' := [(4, .int (nI 0)), (0, .ref (ad 4)), (1, .int place), (2, .int day), (3, .ref (ad q))]) hx hb dX4_fillTellings_1 hl (by decide) rfl (fun ls hl => ?_)
  have L3 : ∀ (N3 : Nat) (v : XS) (j : Nat) (hv : v = sa st q (fup (ga st q) (fun k => knS st n place (nI k) day) j)) (hj : j ≤ 4) (hN : 4 - j < N3) (H : Heap) (locs : List Loc) (ls : Array Slot), xH D cy ad Ls (XA ad Ls sz) s v H locs → lv_has ls 5 [(0, .ref (ad 4)), (1, .int place), (2, .int day), (3, .ref (ad q)), (4, .int (nI j))] → W p l e (xR 2) s m args below meth c H locs 0 0 (MQ below (va_Qv (fun u => u = sa st q (fup (ga st q) (fun k => knS st n place (nI k) day) 4)) (fun u => xPost D cy ad Ls (XA ad Ls sz) u) (XA ad Ls sz)) args s 0 0 (XA ad Ls sz)) (F0 m 3 ls []) := by
    intro N3
    induction N3 with
    | zero => intro v j hv hj hN; omega
    | succ N3 ih3 =>
      intro v j hv hj hN H locs ls h hl
      refine lv_iload hx hb dX4_fillTellings_3 (lv_at hl 4 rfl) ?_
      refine lv_iconst (v := nI 4) hx hb dX4_fillTellings_5 (by decide) ?_
      refine x_icmpN_ge (tgt := 29) hx hb dX4_fillTellings_6 (by decide) (by omega) (by omega) (fun c6 => ?_) (fun c6 => ?_)
      · exact x_vret C hr hlocks h (by rw [show 4 = j by omega]; exact hv) dX4_fillTellings_29
      · refine lv_aload_n hx hb dX4_fillTellings_9 rfl (lv_at hl 3 rfl) ?_
        refine lv_iload hx hb dX4_fillTellings_10 (lv_at hl 4 rfl) ?_
        refine lv_aload_n hx hb dX4_fillTellings_12 rfl (lv_at hl 0 rfl) ?_
        refine lv_iload_n hx hb dX4_fillTellings_13 rfl (lv_at hl 1 rfl) ?_
        refine lv_iload hx hb dX4_fillTellings_14 (lv_at hl 4 rfl) ?_
        refine lv_iload_n hx hb dX4_fillTellings_16 rfl (lv_at hl 2 rfl) ?_
        refine cl_X4_36 C h (hL 4 rfl) rfl (c_X4_known l D cy ad Ls v hL n hn60 (by rw [hv]; exact hc) place (nI j) day) (x_room (by omega)) ⟨Nat.zero_le _, Nat.zero_le _⟩ hl.1 (Nat.le_of_ble_eq_true rfl) dX4_fillTellings_17 (fun r2 u1 H locs hp h => ?_)
        obtain ⟨er2, eu1⟩ := hp; rw [eu1] at h; clear eu1 u1; refine x_topi er2 ?_; clear er2 r2
        refine x_topi (y := knS st n place (nI j) day) (by rw [hv, knS_sa hkq]) ?_
        refine cl_X4_28 C h (c_X7_set l D cy ad Ls v hq (n := 4) hkq (by decide) (nI j) (knS st n place (nI j) day)) (x_room (by omega)) ⟨Nat.zero_le _, Nat.zero_le _⟩ hl.1 (Nat.le_of_ble_eq_true rfl) dX4_fillTellings_20 (fun u3 H locs hp h => ?_)
        have eu3 := hp; clear hp
        have e5 : gi u3 4 4 = nI n := by rw [eu3]; exact (by rw [hv]; exact hc)
        rw [xset_nI (by omega) (by decide)] at eu3
        refine lv_iinc (v := nI (j + 1)) (lv' := [(4, .int (nI (j + 1))), (0, .ref (ad 4)), (1, .int place), (2, .int day), (3, .ref (ad q))]) hx hb dX4_fillTellings_23 hl (k := 4) rfl (nI_add _ _) (by decide) rfl (fun ls hl => ?_)
        refine lv_goto (tgt := 3) hx hb dX4_fillTellings_26 (by decide) ?_
        exact ih3 u3 (j + 1) (by rw [eu3, hv, ga_self, sa_sa]; rfl) (by omega) (by omega) H locs ls h (lv_sub hl [1, 2, 3, 4, 0] rfl)
  exact L3 5 st 0 (sa_id st q).symm (by omega) (by omega) H locs ls h (lv_sub hl [1, 2, 3, 4, 0] rfl)

set_option maxHeartbeats 4000000 in
set_option maxRecDepth 100000 in
theorem c_X4_fillHundredths (l : Launch) (D : va_G) (cy : Nat → ClassId) (ad : Nat → Nat) (Ls : List Nat) (st : XS) (hL : ∀ k, xC k = true → k ∈ Ls) {q : Nat} (hq : q ∈ Ls) (hkq : kd q = 104) (n : Nat) (hn60 : n ≤ 60) (hc : gi st 4 4 = nI n) (place day : Int32) : xMv l yX4_fillHundredths cX4_fillHundredths 6 2 D cy ad Ls st [.ref (ad 4), .int place, .int day, .ref (ad q)] (fun u => u = sa st q (fup (ga st q) (fun k => rtOf (ga st 15) (knS st n place (nI k) day)) 4)) := by
  intro sz
  refine x_of sz (by decide +kernel) (Nat.le_of_ble_eq_true rfl) ?_
  intro p e s m args below meth c ls hx hb hr hlocks C hsz h hl
  have hl : lv_has ls 6 [(0, .ref (ad 4)), (1, .int place), (2, .int day), (3, .ref (ad q))] := hl
  obtain ⟨H, eH⟩ : ∃ z, z = s.heap := ⟨_, rfl⟩
  obtain ⟨locs, eL⟩ : ∃ z : List Loc, z = [] := ⟨_, rfl⟩
  rw [← eH, ← eL] at h
  rw [← eH, ← eL]
  clear eH eL
  refine lv_iconst (v := nI 0) hx hb dX4_fillHundredths_0 (by decide) ?_
  refine lv_istore (lv' := [(4, .int (nI 0)), (0, .ref (ad 4)), (1, .int place), (2, .int day), (3, .ref (ad q))]) hx hb dX4_fillHundredths_1 hl (by decide) rfl (fun ls hl => ?_)
  have L3 : ∀ (N3 : Nat) (v : XS) (j : Nat) (hv : v = sa st q (fup (ga st q) (fun k => rtOf (ga st 15) (knS st n place (nI k) day)) j)) (hj : j ≤ 4) (hN : 4 - j < N3) (H : Heap) (locs : List Loc) (ls : Array Slot), xH D cy ad Ls (XA ad Ls sz) s v H locs → lv_has ls 6 [(0, .ref (ad 4)), (1, .int place), (2, .int day), (3, .ref (ad q)), (4, .int (nI j))] → W p l e (xR 2) s m args below meth c H locs 0 0 (MQ below (va_Qv (fun u => u = sa st q (fup (ga st q) (fun k => rtOf (ga st 15) (knS st n place (nI k) day)) 4)) (fun u => xPost D cy ad Ls (XA ad Ls sz) u) (XA ad Ls sz)) args s 0 0 (XA ad Ls sz)) (F0 m 3 ls []) := by
    intro N3
    induction N3 with
    | zero => intro v j hv hj hN; omega
    | succ N3 ih3 =>
      intro v j hv hj hN H locs ls h hl
      refine lv_iload hx hb dX4_fillHundredths_3 (lv_at hl 4 rfl) ?_
      refine lv_iconst (v := nI 4) hx hb dX4_fillHundredths_5 (by decide) ?_
      refine x_icmpN_ge (tgt := 50) hx hb dX4_fillHundredths_6 (by decide) (by omega) (by omega) (fun c6 => ?_) (fun c6 => ?_)
      · exact x_vret C hr hlocks h (by rw [show 4 = j by omega]; exact hv) dX4_fillHundredths_50
      · refine lv_aload_n hx hb dX4_fillHundredths_9 rfl (lv_at hl 0 rfl) ?_
        refine lv_iload_n hx hb dX4_fillHundredths_10 rfl (lv_at hl 1 rfl) ?_
        refine lv_iload hx hb dX4_fillHundredths_11 (lv_at hl 4 rfl) ?_
        refine lv_iload_n hx hb dX4_fillHundredths_13 rfl (lv_at hl 2 rfl) ?_
        refine cl_X4_36 C h (hL 4 rfl) rfl (c_X4_known l D cy ad Ls v hL n hn60 (by rw [hv]; exact hc) place (nI j) day) (x_room (by omega)) ⟨Nat.zero_le _, Nat.zero_le _⟩ hl.1 (Nat.le_of_ble_eq_true rfl) dX4_fillHundredths_14 (fun r2 u1 H locs hp h => ?_)
        obtain ⟨er2, eu1⟩ := hp; rw [eu1] at h; clear eu1 u1; refine x_topi er2 ?_; clear er2 r2
        refine x_topi (y := knS st n place (nI j) day) (by rw [hv, knS_sa hkq]) ?_
        refine lv_istore (lv' := [(5, .int (knS st n place (nI j) day)), (0, .ref (ad 4)), (1, .int place), (2, .int day), (3, .ref (ad q)), (4, .int (nI j))]) hx hb dX4_fillHundredths_17 hl (by decide) rfl (fun ls hl => ?_)
        refine lv_aload_n hx hb dX4_fillHundredths_19 rfl (lv_at hl 4 rfl) ?_
        refine lv_iload hx hb dX4_fillHundredths_20 (lv_at hl 5 rfl) ?_
        refine lv_iload hx hb dX4_fillHundredths_22 (lv_at hl 0 rfl) ?_
        refine lv_iconst (v := (-1)) hx hb dX4_fillHundredths_24 (by decide) ?_
        refine lv_icmp_ne (tgt := 32) hx hb dX4_fillHundredths_25 (by decide) (fun c25 => ?_) (fun c25 => ?_)
        · refine lv_aload_n hx hb dX4_fillHundredths_32 rfl (lv_at hl 1 rfl) ?_
          refine gf_X4_18 C h (hL 4 rfl) rfl (k2 := 15) rfl dX4_fillHundredths_33 ?_
          refine lv_iload hx hb dX4_fillHundredths_36 (lv_at hl 0 rfl) ?_
          refine cl_X4_32 C h (c_X7_get l D cy ad Ls v (hL 15 rfl) (n := 60) rfl (by decide) (knS st n place (nI j) day)) (x_room (by omega)) ⟨Nat.zero_le _, Nat.zero_le _⟩ hl.1 (Nat.le_of_ble_eq_true rfl) dX4_fillHundredths_38 (fun r4 u3 H locs hp h => ?_)
          obtain ⟨er4, eu3⟩ := hp; rw [eu3] at h; clear eu3 u3; refine x_topi er4 ?_; clear er4 r4
          refine x_topi (y := xget 60 (ga st 15) (knS st n place (nI j) day)) (by rw [hv, ga_sa, if_neg (fun z9 => by subst z9; exact absurd hkq (by decide))]) ?_
          refine cl_X4_28 C h (c_X7_set l D cy ad Ls v hq (n := 4) hkq (by decide) (nI j) (xget 60 (ga st 15) (knS st n place (nI j) day))) (x_room (by omega)) ⟨Nat.zero_le _, Nat.zero_le _⟩ hl.1 (Nat.le_of_ble_eq_true rfl) dX4_fillHundredths_41 (fun u5 H locs hp h => ?_)
          have eu5 := hp; clear hp
          have e7 : gi u5 4 4 = nI n := by rw [eu5]; exact (by rw [hv]; exact hc)
          rw [xset_nI (by omega) (by decide)] at eu5
          refine lv_iinc (v := nI (j + 1)) (lv' := [(4, .int (nI (j + 1))), (5, .int (knS st n place (nI j) day)), (0, .ref (ad 4)), (1, .int place), (2, .int day), (3, .ref (ad q))]) hx hb dX4_fillHundredths_44 hl (k := 5) rfl (nI_add _ _) (by decide) rfl (fun ls hl => ?_)
          refine lv_goto (tgt := 3) hx hb dX4_fillHundredths_47 (by decide) ?_
          exact ih3 u5 (j + 1) (by rw [eu5, hv, ga_self, sa_sa]; exact congrArg (fun z9 => sa st q (upd _ j z9)) (show _ = rtOf _ _ from by unfold rtOf; first | (rw [if_pos (by assumption)]; done) | (rw [if_neg (by assumption)]; done))) (by omega) (by omega) H locs ls h (lv_sub hl [2, 3, 4, 5, 0] rfl)
        · refine lv_iconst (v := nI 0) hx hb dX4_fillHundredths_28 (by decide) ?_
          refine lv_goto (tgt := 41) hx hb dX4_fillHundredths_29 (by decide) ?_
          refine cl_X4_28 C h (c_X7_set l D cy ad Ls v hq (n := 4) hkq (by decide) (nI j) (nI 0)) (x_room (by omega)) ⟨Nat.zero_le _, Nat.zero_le _⟩ hl.1 (Nat.le_of_ble_eq_true rfl) dX4_fillHundredths_41 (fun u8 H locs hp h => ?_)
          have eu8 := hp; clear hp
          have e10 : gi u8 4 4 = nI n := by rw [eu8]; exact (by rw [hv]; exact hc)
          rw [xset_nI (by omega) (by decide)] at eu8
          refine lv_iinc (v := nI (j + 1)) (lv' := [(4, .int (nI (j + 1))), (5, .int (knS st n place (nI j) day)), (0, .ref (ad 4)), (1, .int place), (2, .int day), (3, .ref (ad q))]) hx hb dX4_fillHundredths_44 hl (k := 5) rfl (nI_add _ _) (by decide) rfl (fun ls hl => ?_)
          refine lv_goto (tgt := 3) hx hb dX4_fillHundredths_47 (by decide) ?_
          exact ih3 u8 (j + 1) (by rw [eu8, hv, ga_self, sa_sa]; exact congrArg (fun z9 => sa st q (upd _ j z9)) (show _ = rtOf _ _ from by unfold rtOf; first | (rw [if_pos (by assumption)]; done) | (rw [if_neg (by assumption)]; done))) (by omega) (by omega) H locs ls h (lv_sub hl [2, 3, 4, 5, 0] rfl)
  exact L3 5 st 0 (sa_id st q).symm (by omega) (by omega) H locs ls h (lv_sub hl [1, 2, 3, 4, 0] rfl)

set_option maxHeartbeats 4000000 in
set_option maxRecDepth 100000 in
theorem c_X1_add (l : Launch) (D : va_G) (cy : Nat → ClassId) (ad : Nat → Nat) (Ls : List Nat) (st : XS) {g : Nat} (hg40 : g < 40) (hG : ∀ j, j < 4 → 300 + 4 * g + j ∈ Ls) (n : Int32) (hc : gi st 3 (300 + 4 * g) = n) (a0 a1 a2 : Int32) : xMi l yX1_add cX1_add 5 (some .int) 1 D cy ad Ls st [.ref (ad (300 + 4 * g)), .int a0, .int a1, .int a2] (fun r u => r = n ∧ u = si (sa (sa (sa st (300 + 4 * g + 1) (xset 160 (ga st (300 + 4 * g + 1)) n a0)) (300 + 4 * g + 2) (xset 160 (ga st (300 + 4 * g + 2)) n a1)) (300 + 4 * g + 3) (xset 160 (ga st (300 + 4 * g + 3)) n a2)) 3 (300 + 4 * g) (n + nI 1)) := by
  intro sz
  refine x_of sz (by decide +kernel) (Nat.le_of_ble_eq_true rfl) ?_
  intro p e s m args below meth c ls hx hb hr hlocks C hsz h hl
  have hl : lv_has ls 5 [(0, .ref (ad (300 + 4 * g))), (1, .int a0), (2, .int a1), (3, .int a2)] := hl
  obtain ⟨H, eH⟩ : ∃ z, z = s.heap := ⟨_, rfl⟩
  obtain ⟨locs, eL⟩ : ∃ z : List Loc, z = [] := ⟨_, rfl⟩
  rw [← eH, ← eL] at h
  rw [← eH, ← eL]
  clear eH eL
  refine lv_aload_n hx hb dX1_add_0 rfl (lv_at hl 0 rfl) ?_
  refine gf_X1_21 C h (show 300 + 4 * g ∈ Ls from hG 0 (by decide)) (kd_f0 hg40) dX1_add_1 ?_
  refine x_topi hc ?_
  refine lv_istore (lv' := [(4, .int n), (0, .ref (ad (300 + 4 * g))), (1, .int a0), (2, .int a1), (3, .int a2)]) hx hb dX1_add_4 hl (by decide) rfl (fun ls hl => ?_)
  refine lv_aload_n hx hb dX1_add_6 rfl (lv_at hl 1 rfl) ?_
  refine gf_X1_9 C h (show 300 + 4 * g ∈ Ls from hG 0 (by decide)) (kd_f0 hg40) (k2 := (300 + 4 * g + 1)) rfl dX1_add_7 ?_
  refine lv_iload hx hb dX1_add_10 (lv_at hl 0 rfl) ?_
  refine lv_iload_n hx hb dX1_add_12 rfl (lv_at hl 2 rfl) ?_
  refine cl_X1_25 C h (c_X7_set l D cy ad Ls st (hG 1 (by decide)) (n := 160) (kd_f1 hg40) (by decide) n a0) (x_room (by omega)) ⟨Nat.zero_le _, Nat.zero_le _⟩ hl.1 (Nat.le_of_ble_eq_true rfl) dX1_add_13 (fun u1 H locs hp h => ?_)
  have eu1 := hp; clear hp
  have e3 : gi u1 3 (300 + 4 * g) = n := by rw [eu1]; exact hc
  refine lv_aload_n hx hb dX1_add_16 rfl (lv_at hl 1 rfl) ?_
  refine gf_X1_15 C h (show 300 + 4 * g ∈ Ls from hG 0 (by decide)) (kd_f0 hg40) (k2 := (300 + 4 * g + 2)) rfl dX1_add_17 ?_
  refine lv_iload hx hb dX1_add_20 (lv_at hl 0 rfl) ?_
  refine lv_iload_n hx hb dX1_add_22 rfl (lv_at hl 3 rfl) ?_
  refine cl_X1_25 C h (c_X7_set l D cy ad Ls u1 (hG 2 (by decide)) (n := 160) (kd_f2 hg40) (by decide) n a1) (x_room (by omega)) ⟨Nat.zero_le _, Nat.zero_le _⟩ hl.1 (Nat.le_of_ble_eq_true rfl) dX1_add_23 (fun u4 H locs hp h => ?_)
  have eu4 := hp; clear hp
  have e6 : gi u4 3 (300 + 4 * g) = n := by rw [eu4]; exact e3
  refine lv_aload_n hx hb dX1_add_26 rfl (lv_at hl 1 rfl) ?_
  refine gf_X1_18 C h (show 300 + 4 * g ∈ Ls from hG 0 (by decide)) (kd_f0 hg40) (k2 := (300 + 4 * g + 3)) rfl dX1_add_27 ?_
  refine lv_iload hx hb dX1_add_30 (lv_at hl 0 rfl) ?_
  refine lv_iload_n hx hb dX1_add_32 rfl (lv_at hl 4 rfl) ?_
  refine cl_X1_25 C h (c_X7_set l D cy ad Ls u4 (hG 3 (by decide)) (n := 160) (kd_f3 hg40) (by decide) n a2) (x_room (by omega)) ⟨Nat.zero_le _, Nat.zero_le _⟩ hl.1 (Nat.le_of_ble_eq_true rfl) dX1_add_33 (fun u7 H locs hp h => ?_)
  have eu7 := hp; clear hp
  have e9 : gi u7 3 (300 + 4 * g) = n := by rw [eu7]; exact e6
  refine lv_aload_n hx hb dX1_add_36 rfl (lv_at hl 1 rfl) ?_
  refine lv_iload hx hb dX1_add_37 (lv_at hl 0 rfl) ?_
  refine lv_iconst (v := nI 1) hx hb dX1_add_39 (by decide) ?_
  refine lv_iadd hx hb dX1_add_40 ?_
  refine pf_X1_21 C h (show 300 + 4 * g ∈ Ls from hG 0 (by decide)) (kd_f0 hg40) dX1_add_41 (fun H locs u10 eu10 h => ?_)
  have e12 : gi u10 3 (300 + 4 * g) = n + (nI 1) := by rw [eu10, gi_si, if_pos ⟨rfl, rfl⟩]
  refine lv_iload hx hb dX1_add_44 (lv_at hl 0 rfl) ?_
  exact x_iret C hr hlocks h ⟨rfl, by subst_vars; simp only [ga_sa, if_neg (show ¬ (300 + 4 * g + 2 = 300 + 4 * g + 1) by omega), if_neg (show ¬ (300 + 4 * g + 3 = 300 + 4 * g + 1) by omega), if_neg (show ¬ (300 + 4 * g + 3 = 300 + 4 * g + 2) by omega)]⟩ dX1_add_46

set_option maxHeartbeats 4000000 in
set_option maxRecDepth 100000 in
theorem c_X1_aimHere (l : Launch) (D : va_G) (cy : Nat → ClassId) (ad : Nat → Nat) (Ls : List Nat) (st : XS) {g : Nat} (hg40 : g < 40) (hG : ∀ j, j < 4 → 300 + 4 * g + j ∈ Ls) (i : Int32) : xMv l yX1_aimHere cX1_aimHere 2 1 D cy ad Ls st [.ref (ad (300 + 4 * g)), .int i] (fun u => u = sa st (300 + 4 * g + 3) (xset 160 (ga st (300 + 4 * g + 3)) i (gi st 3 (300 + 4 * g)))) := by
  intro sz
  refine x_of sz (by decide +kernel) (Nat.le_of_ble_eq_true rfl) ?_
  intro p e s m args below meth c ls hx hb hr hlocks C hsz h hl
  have hl : lv_has ls 2 [(0, .ref (ad (300 + 4 * g))), (1, .int i)] := hl
  obtain ⟨H, eH⟩ : ∃ z, z = s.heap := ⟨_, rfl⟩
  obtain ⟨locs, eL⟩ : ∃ z : List Loc, z = [] := ⟨_, rfl⟩
  rw [← eH, ← eL] at h
  rw [← eH, ← eL]
  clear eH eL
  refine lv_aload_n hx hb dX1_aimHere_0 rfl (lv_at hl 0 rfl) ?_
  refine gf_X1_18 C h (show 300 + 4 * g ∈ Ls from hG 0 (by decide)) (kd_f0 hg40) (k2 := (300 + 4 * g + 3)) rfl dX1_aimHere_1 ?_
  refine lv_iload_n hx hb dX1_aimHere_4 rfl (lv_at hl 1 rfl) ?_
  refine lv_aload_n hx hb dX1_aimHere_5 rfl (lv_at hl 0 rfl) ?_
  refine gf_X1_21 C h (show 300 + 4 * g ∈ Ls from hG 0 (by decide)) (kd_f0 hg40) dX1_aimHere_6 ?_
  refine cl_X1_25 C h (c_X7_set l D cy ad Ls st (hG 3 (by decide)) (n := 160) (kd_f3 hg40) (by decide) i (gi st 3 (300 + 4 * g))) (x_room (by omega)) ⟨Nat.zero_le _, Nat.zero_le _⟩ hl.1 (Nat.le_of_ble_eq_true rfl) dX1_aimHere_9 (fun u1 H locs hp h => ?_)
  have eu1 := hp; clear hp
  exact x_vret C hr hlocks h eu1 dX1_aimHere_12

set_option maxHeartbeats 4000000 in
set_option maxRecDepth 100000 in
theorem c_X2_enter (l : Launch) (D : va_G) (cy : Nat → ClassId) (ad : Nat → Nat) (Ls : List Nat) (st : XS) (hL : ∀ k, xC k = true → k ∈ Ls) (n : Nat) (hn : n < 40) (hc : gi st 3 5 = nI n) (a0 a1 a2 : Int32) : xMv l yX2_enter cX2_enter 4 1 D cy ad Ls st [.ref (ad 5), .int a0, .int a1, .int a2] (fun u => u = si (sa (sa (sa st 17 (upd (ga st 17) n a0)) 18 (upd (ga st 18) n a1)) 19 (upd (ga st 19) n a2)) 3 5 (nI (n + 1))) := by
  intro sz
  refine x_of sz (by decide +kernel) (Nat.le_of_ble_eq_true rfl) ?_
  intro p e s m args below meth c ls hx hb hr hlocks C hsz h hl
  have hl : lv_has ls 4 [(0, .ref (ad 5)), (1, .int a0), (2, .int a1), (3, .int a2)] := hl
  obtain ⟨H, eH⟩ : ∃ z, z = s.heap := ⟨_, rfl⟩
  obtain ⟨locs, eL⟩ : ∃ z : List Loc, z = [] := ⟨_, rfl⟩
  rw [← eH, ← eL] at h
  rw [← eH, ← eL]
  clear eH eL
  refine lv_aload_n hx hb dX2_enter_0 rfl (lv_at hl 0 rfl) ?_
  refine gf_X2_9 C h (hL 5 rfl) rfl (k2 := 17) rfl dX2_enter_1 ?_
  refine lv_aload_n hx hb dX2_enter_4 rfl (lv_at hl 0 rfl) ?_
  refine gf_X2_21 C h (hL 5 rfl) rfl dX2_enter_5 ?_
  refine x_topi hc ?_
  refine lv_iload_n hx hb dX2_enter_8 rfl (lv_at hl 1 rfl) ?_
  refine cl_X2_25 C h (c_X7_set l D cy ad Ls st (hL 17 rfl) (n := 40) rfl (by decide) (nI n) a0) (x_room (by omega)) ⟨Nat.zero_le _, Nat.zero_le _⟩ hl.1 (Nat.le_of_ble_eq_true rfl) dX2_enter_9 (fun u1 H locs hp h => ?_)
  have eu1 := hp; clear hp
  have e3 : gi u1 3 5 = nI n := by rw [eu1]; exact hc
  rw [xset_nI (by omega) (by decide)] at eu1
  refine lv_aload_n hx hb dX2_enter_12 rfl (lv_at hl 0 rfl) ?_
  refine gf_X2_15 C h (hL 5 rfl) rfl (k2 := 18) rfl dX2_enter_13 ?_
  refine lv_aload_n hx hb dX2_enter_16 rfl (lv_at hl 0 rfl) ?_
  refine gf_X2_21 C h (hL 5 rfl) rfl dX2_enter_17 ?_
  refine x_topi e3 ?_
  refine lv_iload_n hx hb dX2_enter_20 rfl (lv_at hl 2 rfl) ?_
  refine cl_X2_25 C h (c_X7_set l D cy ad Ls u1 (hL 18 rfl) (n := 40) rfl (by decide) (nI n) a1) (x_room (by omega)) ⟨Nat.zero_le _, Nat.zero_le _⟩ hl.1 (Nat.le_of_ble_eq_true rfl) dX2_enter_21 (fun u4 H locs hp h => ?_)
  have eu4 := hp; clear hp
  have e6 : gi u4 3 5 = nI n := by rw [eu4]; exact e3
  rw [xset_nI (by omega) (by decide)] at eu4
  refine lv_aload_n hx hb dX2_enter_24 rfl (lv_at hl 0 rfl) ?_
  refine gf_X2_18 C h (hL 5 rfl) rfl (k2 := 19) rfl dX2_enter_25 ?_
  refine lv_aload_n hx hb dX2_enter_28 rfl (lv_at hl 0 rfl) ?_
  refine gf_X2_21 C h (hL 5 rfl) rfl dX2_enter_29 ?_
  refine x_topi e6 ?_
  refine lv_iload_n hx hb dX2_enter_32 rfl (lv_at hl 3 rfl) ?_
  refine cl_X2_25 C h (c_X7_set l D cy ad Ls u4 (hL 19 rfl) (n := 40) rfl (by decide) (nI n) a2) (x_room (by omega)) ⟨Nat.zero_le _, Nat.zero_le _⟩ hl.1 (Nat.le_of_ble_eq_true rfl) dX2_enter_33 (fun u7 H locs hp h => ?_)
  have eu7 := hp; clear hp
  have e9 : gi u7 3 5 = nI n := by rw [eu7]; exact e6
  rw [xset_nI (by omega) (by decide)] at eu7
  refine lv_aload_n hx hb dX2_enter_36 rfl (lv_at hl 0 rfl) ?_
  refine lv_dup hx hb dX2_enter_37 rfl ?_
  refine gf_X2_21 C h (hL 5 rfl) rfl dX2_enter_38 ?_
  refine x_topi e9 ?_
  refine lv_iconst (v := nI 1) hx hb dX2_enter_41 (by decide) ?_
  refine x_addN hx hb dX2_enter_42 ?_
  refine pf_X2_21 C h (hL 5 rfl) rfl dX2_enter_43 (fun H locs u10 eu10 h => ?_)
  have e12 : gi u10 3 5 = nI (n + 1) := by rw [eu10, gi_si, if_pos ⟨rfl, rfl⟩]
  exact x_vret C hr hlocks h (by subst_vars; rfl) dX2_enter_46

set_option maxHeartbeats 4000000 in
set_option maxRecDepth 100000 in
theorem c_X3_countSigns (l : Launch) (D : va_G) (cy : Nat → ClassId) (ad : Nat → Nat) (Ls : List Nat) (st : XS) (n : Nat) (hn64 : n < 2 ^ 64) : xMi l yX3_countSigns cX3_countSigns 6 (some .int) 0 D cy ad Ls st [.long (lN n)] (fun r u => r = csF 8 n 0 ∧ u = st) := by
  intro sz
  refine x_of sz (by decide +kernel) (Nat.le_of_ble_eq_true rfl) ?_
  intro p e s m args below meth c ls hx hb hr hlocks C hsz h hl
  have hl : lv_has ls 6 [(0, .long (lN n))] := hl
  obtain ⟨H, eH⟩ : ∃ z, z = s.heap := ⟨_, rfl⟩
  obtain ⟨locs, eL⟩ : ∃ z : List Loc, z = [] := ⟨_, rfl⟩
  rw [← eH, ← eL] at h
  rw [← eH, ← eL]
  clear eH eL
  refine lv_lload_n hx hb dX3_countSigns_0 rfl (lv_at hl 0 rfl) ?_
  refine lv_lstore_n (lv' := [(2, .long (lN n)), (0, .long (lN n))]) hx hb dX3_countSigns_1 rfl hl (by decide) rfl (fun ls hl => ?_)
  refine lv_iconst (v := nI 0) hx hb dX3_countSigns_2 (by decide) ?_
  refine lv_istore (lv' := [(4, .int (nI 0)), (2, .long (lN n)), (0, .long (lN n))]) hx hb dX3_countSigns_3 hl (by decide) rfl (fun ls hl => ?_)
  have L5 : ∀ (N5 : Nat) (t : Nat) (x : Nat) (hx64 : x < 2 ^ 64) (hq : csF 8 n 0 = csF (8 - t) x t) (hc : t ≤ 8) (hN : 8 - t < N5) (H : Heap) (locs : List Loc) (ls : Array Slot), xH D cy ad Ls (XA ad Ls sz) s st H locs → lv_has ls 6 [(0, .long (lN n)), (2, .long (lN x)), (4, .int (nI t))] → W p l e (xR 0) s m args below meth c H locs 0 0 (MQ below (va_Qi (fun r u => r = csF 8 n 0 ∧ u = st) (fun u => xPost D cy ad Ls (XA ad Ls sz) u) (XA ad Ls sz)) args s 0 0 (XA ad Ls sz)) (F0 m 5 ls []) := by
    intro N5
    induction N5 with
    | zero => intro t x hx64 hq hc hN; omega
    | succ N5 ih5 =>
      intro t x hx64 hq hc hN H locs ls h hl
      refine lv_iload hx hb dX3_countSigns_5 (lv_at hl 2 rfl) ?_
      refine lv_bipush (v := nI 8) hx hb dX3_countSigns_7 (by decide) ?_
      refine x_icmpN_ge (tgt := 65) hx hb dX3_countSigns_9 (by decide) (by omega) (by omega) (fun c9 => ?_) (fun c9 => ?_)
      · refine lv_bipush (v := nI 8) hx hb dX3_countSigns_65 (by decide) ?_
        exact x_iret C hr hlocks h ⟨by rw [hq, show t = 8 by omega]; rfl, rfl⟩ dX3_countSigns_67
      · refine lv_lload_n hx hb dX3_countSigns_12 rfl (lv_at hl 1 rfl) ?_
        refine lv_ldc2 (v := 255) hx hb C.2.2.2.1 (C.2.2.2.2.1 _ tb791) dX3_countSigns_13 ?_
        refine lv_land hx hb dX3_countSigns_16 ?_
        refine x_topl (y := lN (x % 256)) (wb_m8 hx64) ?_
        refine lv_l2i hx hb dX3_countSigns_17 rfl ?_
        refine x_topi (y := nI (x % 256)) (lN_i _) ?_
        refine lv_istore (lv' := [(5, .int (nI (x % 256))), (0, .long (lN n)), (2, .long (lN x)), (4, .int (nI t))]) hx hb dX3_countSigns_18 hl (by decide) rfl (fun ls hl => ?_)
        refine lv_iload hx hb dX3_countSigns_20 (lv_at hl 0 rfl) ?_
        refine x_ifN_ne (tgt := 38) hx hb dX3_countSigns_22 (by decide) (by omega) (fun c22 => ?_) (fun c22 => ?_)
        · refine lv_iload hx hb dX3_countSigns_38 (lv_at hl 0 rfl) ?_
          refine lv_bipush (v := nI 32) hx hb dX3_countSigns_40 (by decide) ?_
          refine x_icmpN_lt (tgt := 52) hx hb dX3_countSigns_42 (by decide) (by omega) (by omega) (fun c42 => ?_) (fun c42 => ?_)
          · refine lv_iconst (v := (-1)) hx hb dX3_countSigns_52 (by decide) ?_
            exact x_iret C hr hlocks h ⟨by rw [hq, show 8 - t = (7 - t) + 1 by omega, csF, if_neg c22, if_pos (by omega)], rfl⟩ dX3_countSigns_53
          · refine lv_iload hx hb dX3_countSigns_45 (lv_at hl 0 rfl) ?_
            refine lv_bipush (v := nI 126) hx hb dX3_countSigns_47 (by decide) ?_
            refine x_icmpN_le (tgt := 54) hx hb dX3_countSigns_49 (by decide) (by omega) (by omega) (fun c49 => ?_) (fun c49 => ?_)
            · refine lv_lload_n hx hb dX3_countSigns_54 rfl (lv_at hl 2 rfl) ?_
              refine lv_bipush (v := nI 8) hx hb dX3_countSigns_55 (by decide) ?_
              refine lv_lushr hx hb dX3_countSigns_57 rfl ?_
              refine x_topl (y := lN (x / 256)) (wb_s8 hx64) ?_
              refine lv_lstore_n (lv' := [(2, .long (lN (x / 256))), (5, .int (nI (x % 256))), (0, .long (lN n)), (4, .int (nI t))]) hx hb dX3_countSigns_58 rfl hl (by decide) rfl (fun ls hl => ?_)
              refine lv_iinc (v := nI (t + 1)) (lv' := [(4, .int (nI (t + 1))), (2, .long (lN (x / 256))), (5, .int (nI (x % 256))), (0, .long (lN n))]) hx hb dX3_countSigns_59 hl (k := 3) rfl (nI_add _ _) (by decide) rfl (fun ls hl => ?_)
              refine lv_goto (tgt := 5) hx hb dX3_countSigns_62 (by decide) ?_
              exact ih5 (t + 1) (x / 256) (by omega) (by rw [hq, show 8 - t = (8 - (t + 1)) + 1 by omega, csF, if_neg c22, if_neg (by omega)]) (by omega) (by omega) H locs ls h (lv_sub hl [3, 1, 0] rfl)
            · refine lv_iconst (v := (-1)) hx hb dX3_countSigns_52 (by decide) ?_
              exact x_iret C hr hlocks h ⟨by rw [hq, show 8 - t = (7 - t) + 1 by omega, csF, if_neg c22, if_pos (by omega)], rfl⟩ dX3_countSigns_53
        · refine lv_lload_n hx hb dX3_countSigns_25 rfl (lv_at hl 2 rfl) ?_
          refine lv_lconst (v := 0) hx hb dX3_countSigns_26 (by decide) ?_
          refine x_lcmp hx hb dX3_countSigns_27 (fun r1 hr1 => ?_)
          have q28 : r1 = 0 ↔ x = 0 := by rw [hr1, lg_cmp_0]; exact lN_eq0 hx64
          refine lv_if_ne (tgt := 36) hx hb dX3_countSigns_28 (by decide) (fun c28 => ?_) (fun c28 => ?_)
          · refine lv_iconst (v := (-1)) hx hb dX3_countSigns_36 (by decide) ?_
            exact x_iret C hr hlocks h ⟨by rw [hq, show 8 - t = (7 - t) + 1 by omega, csF, if_pos c22, if_neg (fun z9 => c28 (q28.mpr z9))], rfl⟩ dX3_countSigns_37
          · refine lv_iload hx hb dX3_countSigns_31 (lv_at hl 3 rfl) ?_
            refine lv_goto (tgt := 37) hx hb dX3_countSigns_33 (by decide) ?_
            exact x_iret C hr hlocks h ⟨by rw [hq, show 8 - t = (7 - t) + 1 by omega, csF, if_pos c22, if_pos (q28.mp c28)], rfl⟩ dX3_countSigns_37
  exact L5 9 0 n hn64 rfl (by omega) (by omega) H locs ls h (lv_sub hl [2, 1, 0] rfl)

theorem si_id (st : XS) (f k : Nat) : si st f k (gi st f k) = st := by
  unfold si gi
  have e : xu2 st.1 f k (st.1 f k) = st.1 := by
    funext a b; unfold xu2; by_cases h : a = f ∧ b = k
    · rw [if_pos h, h.1, h.2]
    · rw [if_neg h]
  rw [e]
theorem si_si (st : XS) (f k : Nat) (x y : Int32) : si (si st f k x) f k y = si st f k y := by
  unfold si
  have e : xu2 (xu2 st.1 f k x) f k y = xu2 st.1 f k y := by
    funext a b; unfold xu2; by_cases h : a = f ∧ b = k
    · rw [if_pos h, if_pos h]
    · rw [if_neg h, if_neg h, if_neg h]
  show (xu2 (xu2 st.1 f k x) f k y, st.2) = _
  rw [e]
theorem si_sa (st : XS) (f k q : Nat) (x : Int32) (r : Nat → Int32) : sa (si st f k x) q r = si (sa st q r) f k x := rfl
theorem si_sa_si (st : XS) (f k q : Nat) (x y : Int32) (r r2 : Nat → Int32) : si (sa (si (sa st q r) f k x) q r2) f k y = si (sa st q r2) f k y := by
  rw [si_sa, sa_sa, si_si]

set_option maxHeartbeats 4000000 in
set_option maxRecDepth 100000 in
theorem c_X3_append (l : Launch) (D : va_G) (cy : Nat → ClassId) (ad : Nat → Nat) (Ls : List Nat) (st : XS) (hL : ∀ k, xC k = true → k ∈ Ls) (n k cnt : Nat) (hn64 : n < 2 ^ 64) (hk : gi st 1 2 = nI k) (hkc : k + cnt ≤ 1000) : xMv l yX3_append cX3_append 7 1 D cy ad Ls st [.ref (ad 2), .long (lN n), .int (nI cnt)] (fun u => u = si (sa st 11 (apF (ga st 11) k n cnt)) 1 2 (nI (k + cnt))) := by
  intro sz
  refine x_of sz (by decide +kernel) (Nat.le_of_ble_eq_true rfl) ?_
  intro p e s m args below meth c ls hx hb hr hlocks C hsz h hl
  have hl : lv_has ls 7 [(0, .ref (ad 2)), (1, .long (lN n)), (3, .int (nI cnt))] := hl
  obtain ⟨H, eH⟩ : ∃ z, z = s.heap := ⟨_, rfl⟩
  obtain ⟨locs, eL⟩ : ∃ z : List Loc, z = [] := ⟨_, rfl⟩
  rw [← eH, ← eL] at h
  rw [← eH, ← eL]
  clear eH eL
  refine lv_lload_n hx hb dX3_append_0 rfl (lv_at hl 1 rfl) ?_
  refine x_topl (y := lN (n / 256 ^ 0)) (by rw [Nat.pow_zero, Nat.div_one]) ?_
  refine lv_lstore (lv' := [(4, .long (lN (n / 256 ^ 0))), (0, .ref (ad 2)), (1, .long (lN n)), (3, .int (nI cnt))]) hx hb dX3_append_1 hl (by decide) rfl (fun ls hl => ?_)
  refine lv_iconst (v := nI 0) hx hb dX3_append_3 (by decide) ?_
  refine lv_istore (lv' := [(6, .int (nI 0)), (4, .long (lN (n / 256 ^ 0))), (0, .ref (ad 2)), (1, .long (lN n)), (3, .int (nI cnt))]) hx hb dX3_append_4 hl (by decide) rfl (fun ls hl => ?_)
  have L6 : ∀ (N6 : Nat) (v : XS) (i : Nat) (hx64 : n / 256 ^ i < 2 ^ 64) (hv : v = si (sa st 11 (apF (ga st 11) k n i)) 1 2 (nI (k + i))) (hi : i ≤ cnt) (hN : cnt - i < N6) (H : Heap) (locs : List Loc) (ls : Array Slot), xH D cy ad Ls (XA ad Ls sz) s v H locs → lv_has ls 7 [(0, .ref (ad 2)), (1, .long (lN n)), (3, .int (nI cnt)), (4, .long (lN (n / 256 ^ i))), (6, .int (nI i))] → W p l e (xR 1) s m args below meth c H locs 0 0 (MQ below (va_Qv (fun u => u = si (sa st 11 (apF (ga st 11) k n cnt)) 1 2 (nI (k + cnt))) (fun u => xPost D cy ad Ls (XA ad Ls sz) u) (XA ad Ls sz)) args s 0 0 (XA ad Ls sz)) (F0 m 6 ls []) := by
    intro N6
    induction N6 with
    | zero => intro v i hx64 hv hi hN; omega
    | succ N6 ih6 =>
      intro v i hx64 hv hi hN H locs ls h hl
      refine lv_iload hx hb dX3_append_6 (lv_at hl 4 rfl) ?_
      refine lv_iload_n hx hb dX3_append_8 rfl (lv_at hl 2 rfl) ?_
      refine x_icmpN_ge (tgt := 53) hx hb dX3_append_9 (by decide) (by omega) (by omega) (fun c9 => ?_) (fun c9 => ?_)
      · exact x_vret C hr hlocks h (by rw [show cnt = i by omega]; exact hv) dX3_append_53
      · refine lv_aload_n hx hb dX3_append_12 rfl (lv_at hl 0 rfl) ?_
        refine gf_X3_9 C h (hL 2 rfl) rfl (k2 := 11) rfl dX3_append_13 ?_
        refine lv_aload_n hx hb dX3_append_16 rfl (lv_at hl 0 rfl) ?_
        refine gf_X3_17 C h (hL 2 rfl) rfl dX3_append_17 ?_
        refine x_topi (by subst hv; rfl) ?_
        refine lv_lload hx hb dX3_append_20 (lv_at hl 3 rfl) ?_
        refine lv_ldc2 (v := 255) hx hb C.2.2.2.1 (C.2.2.2.2.1 _ tb791) dX3_append_22 ?_
        refine lv_land hx hb dX3_append_25 ?_
        refine x_topl (y := lN (n / 256 ^ i % 256)) (wb_m8 hx64) ?_
        refine lv_l2i hx hb dX3_append_26 rfl ?_
        refine x_topi (y := nI (n / 256 ^ i % 256)) (lN_i _) ?_
        refine cl_X3_21 C h (c_X7_set l D cy ad Ls v (hL 11 rfl) (n := 160) rfl (by decide) (nI (k + i)) (nI (n / 256 ^ i % 256))) (x_room (by omega)) ⟨Nat.zero_le _, Nat.zero_le _⟩ hl.1 (Nat.le_of_ble_eq_true rfl) dX3_append_27 (fun u1 H locs hp h => ?_)
        have eu1 := hp; clear hp
        have e3 : gi u1 1 2 = nI (k + i) := by rw [eu1]; exact (by subst hv; rfl)
        refine lv_aload_n hx hb dX3_append_30 rfl (lv_at hl 0 rfl) ?_
        refine lv_dup hx hb dX3_append_31 rfl ?_
        refine gf_X3_17 C h (hL 2 rfl) rfl dX3_append_32 ?_
        refine x_topi e3 ?_
        refine lv_iconst (v := nI 1) hx hb dX3_append_35 (by decide) ?_
        refine x_addN hx hb dX3_append_36 ?_
        refine pf_X3_17 C h (hL 2 rfl) rfl dX3_append_37 (fun H locs u4 eu4 h => ?_)
        have e6 : gi u4 1 2 = nI ((k + i) + 1) := by rw [eu4, gi_si, if_pos ⟨rfl, rfl⟩]
        refine lv_lload hx hb dX3_append_40 (lv_at hl 3 rfl) ?_
        refine lv_bipush (v := nI 8) hx hb dX3_append_42 (by decide) ?_
        refine lv_lushr hx hb dX3_append_44 rfl ?_
        refine x_topl (y := lN (n / 256 ^ (i + 1))) (by rw [wb_s8 hx64, Nat.div_div_eq_div_mul, ← Nat.pow_succ]) ?_
        refine lv_lstore (lv' := [(4, .long (lN (n / 256 ^ (i + 1)))), (0, .ref (ad 2)), (1, .long (lN n)), (3, .int (nI cnt)), (6, .int (nI i))]) hx hb dX3_append_45 hl (by decide) rfl (fun ls hl => ?_)
        refine lv_iinc (v := nI (i + 1)) (lv' := [(6, .int (nI (i + 1))), (4, .long (lN (n / 256 ^ (i + 1)))), (0, .ref (ad 2)), (1, .long (lN n)), (3, .int (nI cnt))]) hx hb dX3_append_47 hl (k := 4) rfl (nI_add _ _) (by decide) rfl (fun ls hl => ?_)
        refine lv_goto (tgt := 6) hx hb dX3_append_50 (by decide) ?_
        exact ih6 u4 (i + 1) (Nat.lt_of_le_of_lt (Nat.div_le_self _ _) hn64) (by subst_vars; rw [si_sa_si]; rfl) (by omega) (by omega) H locs ls h (lv_sub hl [2, 3, 4, 1, 0] rfl)
  exact L6 (cnt + 1) st 0 (by rw [Nat.pow_zero, Nat.div_one]; exact hn64) (by show st = si (sa st 11 (ga st 11)) 1 2 (nI (k + 0)); rw [sa_id, Nat.add_zero, ← hk, si_id]) (by omega) (by omega) H locs ls h (lv_sub hl [2, 3, 4, 1, 0] rfl)

set_option maxHeartbeats 4000000 in
set_option maxRecDepth 100000 in
theorem c_X3_signAt (l : Launch) (D : va_G) (cy : Nat → ClassId) (ad : Nat → Nat) (Ls : List Nat) (st : XS) (hL : ∀ k, xC k = true → k ∈ Ls) (k : Nat) (hk : gi st 1 2 = nI k) (i : Int32) : xMi l yX3_signAt cX3_signAt 2 (some .char) 1 D cy ad Ls st [.ref (ad 2), .int i] (fun r u => r = sgF (ga st 11) k i ∧ u = st) := by
  intro sz
  refine x_of sz (by decide +kernel) (Nat.le_of_ble_eq_true rfl) ?_
  intro p e s m args below meth c ls hx hb hr hlocks C hsz h hl
  have hl : lv_has ls 2 [(0, .ref (ad 2)), (1, .int i)] := hl
  obtain ⟨H, eH⟩ : ∃ z, z = s.heap := ⟨_, rfl⟩
  obtain ⟨locs, eL⟩ : ∃ z : List Loc, z = [] := ⟨_, rfl⟩
  rw [← eH, ← eL] at h
  rw [← eH, ← eL]
  clear eH eL
  refine lv_iload_n hx hb dX3_signAt_0 rfl (lv_at hl 1 rfl) ?_
  refine lv_aload_n hx hb dX3_signAt_1 rfl (lv_at hl 0 rfl) ?_
  refine gf_X3_17 C h (hL 2 rfl) rfl dX3_signAt_2 ?_
  refine x_topi hk ?_
  refine lv_icmp_ge (tgt := 20) hx hb dX3_signAt_5 (by decide) (fun c5 => ?_) (fun c5 => ?_)
  · refine lv_iconst (v := nI 0) hx hb dX3_signAt_20 (by decide) ?_
    exact x_zret C hr hlocks (by decide) h ⟨by rw [sgF, if_pos c5], rfl⟩ dX3_signAt_21
  · refine lv_aload_n hx hb dX3_signAt_8 rfl (lv_at hl 0 rfl) ?_
    refine gf_X3_9 C h (hL 2 rfl) rfl (k2 := 11) rfl dX3_signAt_9 ?_
    refine lv_iload_n hx hb dX3_signAt_12 rfl (lv_at hl 1 rfl) ?_
    refine cl_X3_25 C h (c_X7_get l D cy ad Ls st (hL 11 rfl) (n := 160) rfl (by decide) i) (x_room (by omega)) ⟨Nat.zero_le _, Nat.zero_le _⟩ hl.1 (Nat.le_of_ble_eq_true rfl) dX3_signAt_13 (fun r2 u1 H locs hp h => ?_)
    obtain ⟨er2, eu1⟩ := hp; rw [eu1] at h; clear eu1 u1; refine x_topi er2 ?_; clear er2 r2
    refine lv_i2c hx hb dX3_signAt_16 rfl ?_
    refine lv_goto (tgt := 21) hx hb dX3_signAt_17 (by decide) ?_
    exact x_zret C hr hlocks (pk_nc _) h ⟨by rw [sgF, if_neg c5], rfl⟩ dX3_signAt_21
