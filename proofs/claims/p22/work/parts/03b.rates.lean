/-! ===== InvoiceSmith$Rates ===== -/
/-- the labels of the class that stand from its birth on -/
def xC (k : Nat) : Bool := decide (k < 20)
/-- the telling by which a day's rate is, and its first day, among the first i -/
def knF (pl kn fr : Nat → Int32) (place kind day : Int32) : Nat → Int32 × Int32
  | 0 => (-1, -1)
  | i + 1 => if pl i = place ∧ kn i = kind ∧ fr i ≤ day ∧ (knF pl kn fr place kind day i).2 ≤ fr i then (nI i, fr i) else knF pl kn fr place kind day i
theorem knF_y {pl kn fr : Nat → Int32} {place kind day : Int32} {i : Nat} (h : pl i = place ∧ kn i = kind ∧ fr i ≤ day ∧ (knF pl kn fr place kind day i).2 ≤ fr i) : knF pl kn fr place kind day (i + 1) = (nI i, fr i) := by rw [knF, if_pos h]
theorem knF_n {pl kn fr : Nat → Int32} {place kind day : Int32} {i : Nat} (h : ¬ (pl i = place ∧ kn i = kind ∧ fr i ≤ day ∧ (knF pl kn fr place kind day i).2 ≤ fr i)) : knF pl kn fr place kind day (i + 1) = knF pl kn fr place kind day i := by rw [knF, if_neg h]
theorem i32_nlt {a b : Int32} (h : ¬ a < b) : b ≤ a := by rw [Int32.lt_iff_toInt_lt] at h; rw [Int32.le_iff_toInt_le]; omega
theorem i32_ngt {a b : Int32} (h : ¬ a < b) : b ≤ a := i32_nlt h
theorem i32_lt_nle {a b : Int32} (h : a < b) : ¬ b ≤ a := by rw [Int32.lt_iff_toInt_lt] at h; rw [Int32.le_iff_toInt_le]; omega
theorem i32_nle {a b : Int32} (h : ¬ a ≤ b) : b < a := by rw [Int32.le_iff_toInt_le] at h; rw [Int32.lt_iff_toInt_lt]; omega
abbrev knS (st : XS) (n : Nat) (place kind day : Int32) : Int32 := (knF (ga st 13) (ga st 14) (ga st 16) place kind day n).1

set_option maxHeartbeats 4000000 in
set_option maxRecDepth 100000 in
theorem c_X4_tell (l : Launch) (D : va_G) (cy : Nat → ClassId) (ad : Nat → Nat) (Ls : List Nat) (st : XS) (hL : ∀ k, xC k = true → k ∈ Ls) (n : Nat) (hn : n < 60) (hc : gi st 4 4 = nI n) (a0 a1 a2 a3 : Int32) : xMi l yX4_tell cX4_tell 6 (some .int) 1 D cy ad Ls st [.ref (ad 4), .int a0, .int a1, .int a2, .int a3] (fun r u => r = nI n ∧ u = si (sa (sa (sa (sa st 13 (upd (ga st 13) n a0)) 14 (upd (ga st 14) n a1)) 15 (upd (ga st 15) n a2)) 16 (upd (ga st 16) n a3)) 4 4 (nI (n + 1))) := by
  intro sz
  refine x_of sz (by decide +kernel) (Nat.le_of_ble_eq_true rfl) ?_
  intro p e s m args below meth c ls hx hb hr hlocks C hsz h hl
  have hl : lv_has ls 6 [(0, .ref (ad 4)), (1, .int a0), (2, .int a1), (3, .int a2), (4, .int a3)] := hl
  obtain ⟨H, eH⟩ : ∃ z, z = s.heap := ⟨_, rfl⟩
  obtain ⟨locs, eL⟩ : ∃ z : List Loc, z = [] := ⟨_, rfl⟩
  rw [← eH, ← eL] at h
  rw [← eH, ← eL]
  clear eH eL
  refine lv_aload_n hx hb dX4_tell_0 rfl (lv_at hl 0 rfl) ?_
  refine gf_X4_24 C h (hL 4 rfl) rfl dX4_tell_1 ?_
  refine x_topi hc ?_
  refine lv_istore (lv' := [(5, .int (nI n)), (0, .ref (ad 4)), (1, .int a0), (2, .int a1), (3, .int a2), (4, .int a3)]) hx hb dX4_tell_4 hl (by decide) rfl (fun ls hl => ?_)
  refine lv_aload_n hx hb dX4_tell_6 rfl (lv_at hl 1 rfl) ?_
  refine gf_X4_9 C h (hL 4 rfl) rfl (k2 := 13) rfl dX4_tell_7 ?_
  refine lv_iload hx hb dX4_tell_10 (lv_at hl 0 rfl) ?_
  refine lv_iload_n hx hb dX4_tell_12 rfl (lv_at hl 2 rfl) ?_
  refine cl_X4_28 C h (c_X7_set l D cy ad Ls st (hL 13 rfl) (n := 60) rfl (by decide) (nI n) a0) (x_room (by omega)) ⟨Nat.zero_le _, Nat.zero_le _⟩ hl.1 (Nat.le_of_ble_eq_true rfl) dX4_tell_13 (fun u1 H locs hp h => ?_)
  have eu1 := hp; clear hp
  have e3 : gi u1 4 4 = nI n := by rw [eu1]; exact hc
  rw [xset_nI (by omega) (by decide)] at eu1
  refine lv_aload_n hx hb dX4_tell_16 rfl (lv_at hl 1 rfl) ?_
  refine gf_X4_15 C h (hL 4 rfl) rfl (k2 := 14) rfl dX4_tell_17 ?_
  refine lv_iload hx hb dX4_tell_20 (lv_at hl 0 rfl) ?_
  refine lv_iload_n hx hb dX4_tell_22 rfl (lv_at hl 3 rfl) ?_
  refine cl_X4_28 C h (c_X7_set l D cy ad Ls u1 (hL 14 rfl) (n := 60) rfl (by decide) (nI n) a1) (x_room (by omega)) ⟨Nat.zero_le _, Nat.zero_le _⟩ hl.1 (Nat.le_of_ble_eq_true rfl) dX4_tell_23 (fun u4 H locs hp h => ?_)
  have eu4 := hp; clear hp
  have e6 : gi u4 4 4 = nI n := by rw [eu4]; exact e3
  rw [xset_nI (by omega) (by decide)] at eu4
  refine lv_aload_n hx hb dX4_tell_26 rfl (lv_at hl 1 rfl) ?_
  refine gf_X4_18 C h (hL 4 rfl) rfl (k2 := 15) rfl dX4_tell_27 ?_
  refine lv_iload hx hb dX4_tell_30 (lv_at hl 0 rfl) ?_
  refine lv_iload_n hx hb dX4_tell_32 rfl (lv_at hl 4 rfl) ?_
  refine cl_X4_28 C h (c_X7_set l D cy ad Ls u4 (hL 15 rfl) (n := 60) rfl (by decide) (nI n) a2) (x_room (by omega)) ⟨Nat.zero_le _, Nat.zero_le _⟩ hl.1 (Nat.le_of_ble_eq_true rfl) dX4_tell_33 (fun u7 H locs hp h => ?_)
  have eu7 := hp; clear hp
  have e9 : gi u7 4 4 = nI n := by rw [eu7]; exact e6
  rw [xset_nI (by omega) (by decide)] at eu7
  refine lv_aload_n hx hb dX4_tell_36 rfl (lv_at hl 1 rfl) ?_
  refine gf_X4_21 C h (hL 4 rfl) rfl (k2 := 16) rfl dX4_tell_37 ?_
  refine lv_iload hx hb dX4_tell_40 (lv_at hl 0 rfl) ?_
  refine lv_iload hx hb dX4_tell_42 (lv_at hl 5 rfl) ?_
  refine cl_X4_28 C h (c_X7_set l D cy ad Ls u7 (hL 16 rfl) (n := 60) rfl (by decide) (nI n) a3) (x_room (by omega)) ⟨Nat.zero_le _, Nat.zero_le _⟩ hl.1 (Nat.le_of_ble_eq_true rfl) dX4_tell_44 (fun u10 H locs hp h => ?_)
  have eu10 := hp; clear hp
  have e12 : gi u10 4 4 = nI n := by rw [eu10]; exact e9
  rw [xset_nI (by omega) (by decide)] at eu10
  refine lv_aload_n hx hb dX4_tell_47 rfl (lv_at hl 1 rfl) ?_
  refine lv_iload hx hb dX4_tell_48 (lv_at hl 0 rfl) ?_
  refine lv_iconst (v := nI 1) hx hb dX4_tell_50 (by decide) ?_
  refine x_addN hx hb dX4_tell_51 ?_
  refine pf_X4_24 C h (hL 4 rfl) rfl dX4_tell_52 (fun H locs u13 eu13 h => ?_)
  have e15 : gi u13 4 4 = nI (n + 1) := by rw [eu13, gi_si, if_pos ⟨rfl, rfl⟩]
  refine lv_iload hx hb dX4_tell_55 (lv_at hl 0 rfl) ?_
  exact x_iret C hr hlocks h ⟨rfl, by subst_vars; rfl⟩ dX4_tell_57

set_option maxHeartbeats 4000000 in
set_option maxRecDepth 100000 in
theorem c_X4_known (l : Launch) (D : va_G) (cy : Nat → ClassId) (ad : Nat → Nat) (Ls : List Nat) (st : XS) (hL : ∀ k, xC k = true → k ∈ Ls) (n : Nat) (hn60 : n ≤ 60) (hc : gi st 4 4 = nI n) (a0 a1 a2 : Int32) : xMi l yX4_known cX4_known 8 (some .int) 1 D cy ad Ls st [.ref (ad 4), .int a0, .int a1, .int a2] (fun r u => r = knS st n a0 a1 a2 ∧ u = st) := by
  intro sz
  refine x_of sz (by decide +kernel) (Nat.le_of_ble_eq_true rfl) ?_
  intro p e s m args below meth c ls hx hb hr hlocks C hsz h hl
  have hl : lv_has ls 8 [(0, .ref (ad 4)), (1, .int a0), (2, .int a1), (3, .int a2)] := hl
  obtain ⟨H, eH⟩ : ∃ z, z = s.heap := ⟨_, rfl⟩
  obtain ⟨locs, eL⟩ : ∃ z : List Loc, z = [] := ⟨_, rfl⟩
  rw [← eH, ← eL] at h
  rw [← eH, ← eL]
  clear eH eL
  refine lv_iconst (v := (-1)) hx hb dX4_known_0 (by decide) ?_
  refine lv_istore (lv' := [(4, .int (-1)), (0, .ref (ad 4)), (1, .int a0), (2, .int a1), (3, .int a2)]) hx hb dX4_known_1 hl (by decide) rfl (fun ls hl => ?_)
  refine lv_iconst (v := (-1)) hx hb dX4_known_3 (by decide) ?_
  refine lv_istore (lv' := [(5, .int (-1)), (4, .int (-1)), (0, .ref (ad 4)), (1, .int a0), (2, .int a1), (3, .int a2)]) hx hb dX4_known_4 hl (by decide) rfl (fun ls hl => ?_)
  refine lv_iconst (v := nI 0) hx hb dX4_known_6 (by decide) ?_
  refine lv_istore (lv' := [(6, .int (nI 0)), (5, .int (-1)), (4, .int (-1)), (0, .ref (ad 4)), (1, .int a0), (2, .int a1), (3, .int a2)]) hx hb dX4_known_7 hl (by decide) rfl (fun ls hl => ?_)
  have L9 : ∀ (N9 : Nat) (j : Nat) (b1 : Int32) (b2 : Int32) (hq : (b1, b2) = knF (ga st 13) (ga st 14) (ga st 16) a0 a1 a2 j) (hj : j ≤ n) (hN : n - j < N9) (H : Heap) (locs : List Loc) (ls : Array Slot), xH D cy ad Ls (XA ad Ls sz) s st H locs → lv_has ls 8 [(0, .ref (ad 4)), (1, .int a0), (2, .int a1), (3, .int a2), (4, .int b1), (5, .int b2), (6, .int (nI j))] → W p l e (xR 1) s m args below meth c H locs 0 0 (MQ below (va_Qi (fun r u => r = knS st n a0 a1 a2 ∧ u = st) (fun u => xPost D cy ad Ls (XA ad Ls sz) u) (XA ad Ls sz)) args s 0 0 (XA ad Ls sz)) (F0 m 9 ls []) := by
    intro N9
    induction N9 with
    | zero => intro j b1 b2 hq hj hN; omega
    | succ N9 ih9 =>
      intro j b1 b2 hq hj hN H locs ls h hl
      refine lv_iload hx hb dX4_known_9 (lv_at hl 6 rfl) ?_
      refine lv_aload_n hx hb dX4_known_11 rfl (lv_at hl 0 rfl) ?_
      refine gf_X4_24 C h (hL 4 rfl) rfl dX4_known_12 ?_
      refine x_topi hc ?_
      refine x_icmpN_ge (tgt := 82) hx hb dX4_known_15 (by decide) (by omega) (by omega) (fun c15 => ?_) (fun c15 => ?_)
      · refine lv_iload hx hb dX4_known_82 (lv_at hl 4 rfl) ?_
        exact x_iret C hr hlocks h ⟨by rw [show n = j by omega, knS, ← hq], rfl⟩ dX4_known_84
      · refine lv_aload_n hx hb dX4_known_18 rfl (lv_at hl 0 rfl) ?_
        refine gf_X4_21 C h (hL 4 rfl) rfl (k2 := 16) rfl dX4_known_19 ?_
        refine lv_iload hx hb dX4_known_22 (lv_at hl 6 rfl) ?_
        refine cl_X4_32 C h (c_X7_get l D cy ad Ls st (hL 16 rfl) (n := 60) rfl (by decide) (nI j)) (x_room (by omega)) ⟨Nat.zero_le _, Nat.zero_le _⟩ hl.1 (Nat.le_of_ble_eq_true rfl) dX4_known_24 (fun r2 u1 H locs hp h => ?_)
        obtain ⟨er2, eu1⟩ := hp; rw [eu1] at h; clear eu1 u1; refine x_topi er2 ?_; clear er2 r2
        refine x_topi (y := ga st 16 j) (xget_nI (by omega) (by decide)) ?_
        refine lv_istore (lv' := [(7, .int (ga st 16 j)), (0, .ref (ad 4)), (1, .int a0), (2, .int a1), (3, .int a2), (4, .int b1), (5, .int b2), (6, .int (nI j))]) hx hb dX4_known_27 hl (by decide) rfl (fun ls hl => ?_)
        refine lv_aload_n hx hb dX4_known_29 rfl (lv_at hl 1 rfl) ?_
        refine gf_X4_9 C h (hL 4 rfl) rfl (k2 := 13) rfl dX4_known_30 ?_
        refine lv_iload hx hb dX4_known_33 (lv_at hl 7 rfl) ?_
        refine cl_X4_32 C h (c_X7_get l D cy ad Ls st (hL 13 rfl) (n := 60) rfl (by decide) (nI j)) (x_room (by omega)) ⟨Nat.zero_le _, Nat.zero_le _⟩ hl.1 (Nat.le_of_ble_eq_true rfl) dX4_known_35 (fun r4 u3 H locs hp h => ?_)
        obtain ⟨er4, eu3⟩ := hp; rw [eu3] at h; clear eu3 u3; refine x_topi er4 ?_; clear er4 r4
        refine x_topi (y := ga st 13 j) (xget_nI (by omega) (by decide)) ?_
        refine lv_iload_n hx hb dX4_known_38 rfl (lv_at hl 2 rfl) ?_
        refine lv_icmp_ne (tgt := 76) hx hb dX4_known_39 (by decide) (fun c39 => ?_) (fun c39 => ?_)
        · refine lv_iinc (v := nI (j + 1)) (lv' := [(6, .int (nI (j + 1))), (7, .int (ga st 16 j)), (0, .ref (ad 4)), (1, .int a0), (2, .int a1), (3, .int a2), (4, .int b1), (5, .int b2)]) hx hb dX4_known_76 hl (k := 7) rfl (nI_add _ _) (by decide) rfl (fun ls hl => ?_)
          refine lv_goto (tgt := 9) hx hb dX4_known_79 (by decide) ?_
          exact ih9 (j + 1) _ _ (hq.trans (knF_n (pl := ga st 13) (kn := ga st 14) (fr := ga st 16) (fun q => c39 q.1)).symm) (by omega) (by omega) H locs ls h (lv_sub hl [2, 3, 4, 5, 6, 7, 0] rfl)
        · refine lv_aload_n hx hb dX4_known_42 rfl (lv_at hl 1 rfl) ?_
          refine gf_X4_15 C h (hL 4 rfl) rfl (k2 := 14) rfl dX4_known_43 ?_
          refine lv_iload hx hb dX4_known_46 (lv_at hl 7 rfl) ?_
          refine cl_X4_32 C h (c_X7_get l D cy ad Ls st (hL 14 rfl) (n := 60) rfl (by decide) (nI j)) (x_room (by omega)) ⟨Nat.zero_le _, Nat.zero_le _⟩ hl.1 (Nat.le_of_ble_eq_true rfl) dX4_known_48 (fun r6 u5 H locs hp h => ?_)
          obtain ⟨er6, eu5⟩ := hp; rw [eu5] at h; clear eu5 u5; refine x_topi er6 ?_; clear er6 r6
          refine x_topi (y := ga st 14 j) (xget_nI (by omega) (by decide)) ?_
          refine lv_iload_n hx hb dX4_known_51 rfl (lv_at hl 3 rfl) ?_
          refine lv_icmp_ne (tgt := 76) hx hb dX4_known_52 (by decide) (fun c52 => ?_) (fun c52 => ?_)
          · refine lv_iinc (v := nI (j + 1)) (lv' := [(6, .int (nI (j + 1))), (7, .int (ga st 16 j)), (0, .ref (ad 4)), (1, .int a0), (2, .int a1), (3, .int a2), (4, .int b1), (5, .int b2)]) hx hb dX4_known_76 hl (k := 7) rfl (nI_add _ _) (by decide) rfl (fun ls hl => ?_)
            refine lv_goto (tgt := 9) hx hb dX4_known_79 (by decide) ?_
            exact ih9 (j + 1) _ _ (hq.trans (knF_n (pl := ga st 13) (kn := ga st 14) (fr := ga st 16) (fun q => c52 q.2.1)).symm) (by omega) (by omega) H locs ls h (lv_sub hl [2, 3, 4, 5, 6, 7, 0] rfl)
          · refine lv_iload hx hb dX4_known_55 (lv_at hl 0 rfl) ?_
            refine lv_iload_n hx hb dX4_known_57 rfl (lv_at hl 4 rfl) ?_
            refine lv_icmp_gt (tgt := 76) hx hb dX4_known_58 (by decide) (fun c58 => ?_) (fun c58 => ?_)
            · refine lv_iinc (v := nI (j + 1)) (lv' := [(6, .int (nI (j + 1))), (7, .int (ga st 16 j)), (0, .ref (ad 4)), (1, .int a0), (2, .int a1), (3, .int a2), (4, .int b1), (5, .int b2)]) hx hb dX4_known_76 hl (k := 7) rfl (nI_add _ _) (by decide) rfl (fun ls hl => ?_)
              refine lv_goto (tgt := 9) hx hb dX4_known_79 (by decide) ?_
              exact ih9 (j + 1) _ _ (hq.trans (knF_n (pl := ga st 13) (kn := ga st 14) (fr := ga st 16) (fun q => i32_lt_nle c58 q.2.2.1)).symm) (by omega) (by omega) H locs ls h (lv_sub hl [2, 3, 4, 5, 6, 7, 0] rfl)
            · refine lv_iload hx hb dX4_known_61 (lv_at hl 0 rfl) ?_
              refine lv_iload hx hb dX4_known_63 (lv_at hl 6 rfl) ?_
              refine lv_icmp_lt (tgt := 76) hx hb dX4_known_65 (by decide) (fun c65 => ?_) (fun c65 => ?_)
              · refine lv_iinc (v := nI (j + 1)) (lv' := [(6, .int (nI (j + 1))), (7, .int (ga st 16 j)), (0, .ref (ad 4)), (1, .int a0), (2, .int a1), (3, .int a2), (4, .int b1), (5, .int b2)]) hx hb dX4_known_76 hl (k := 7) rfl (nI_add _ _) (by decide) rfl (fun ls hl => ?_)
                refine lv_goto (tgt := 9) hx hb dX4_known_79 (by decide) ?_
                exact ih9 (j + 1) _ _ (hq.trans (knF_n (pl := ga st 13) (kn := ga st 14) (fr := ga st 16) (fun q => i32_lt_nle c65 (by have z := q.2.2.2; rw [← hq] at z; exact z))).symm) (by omega) (by omega) H locs ls h (lv_sub hl [2, 3, 4, 5, 6, 7, 0] rfl)
              · refine lv_iload hx hb dX4_known_68 (lv_at hl 7 rfl) ?_
                refine lv_istore (lv' := [(4, .int (nI j)), (7, .int (ga st 16 j)), (0, .ref (ad 4)), (1, .int a0), (2, .int a1), (3, .int a2), (5, .int b2), (6, .int (nI j))]) hx hb dX4_known_70 hl (by decide) rfl (fun ls hl => ?_)
                refine lv_iload hx hb dX4_known_72 (lv_at hl 1 rfl) ?_
                refine lv_istore (lv' := [(5, .int (ga st 16 j)), (4, .int (nI j)), (7, .int (ga st 16 j)), (0, .ref (ad 4)), (1, .int a0), (2, .int a1), (3, .int a2), (6, .int (nI j))]) hx hb dX4_known_74 hl (by decide) rfl (fun ls hl => ?_)
                refine lv_iinc (v := nI (j + 1)) (lv' := [(6, .int (nI (j + 1))), (5, .int (ga st 16 j)), (4, .int (nI j)), (7, .int (ga st 16 j)), (0, .ref (ad 4)), (1, .int a0), (2, .int a1), (3, .int a2)]) hx hb dX4_known_76 hl (k := 7) rfl (nI_add _ _) (by decide) rfl (fun ls hl => ?_)
                refine lv_goto (tgt := 9) hx hb dX4_known_79 (by decide) ?_
                exact ih9 (j + 1) _ _ ((knF_y (pl := ga st 13) (kn := ga st 14) (fr := ga st 16) ⟨c39, c52, i32_nlt c58, by rw [← hq]; exact i32_nlt c65⟩).symm) (by omega) (by omega) H locs ls h (lv_sub hl [4, 5, 6, 7, 2, 1, 0] rfl)
  exact L9 (n + 1) 0 _ _ rfl (by omega) (by omega) H locs ls h (lv_sub hl [3, 4, 5, 6, 2, 1, 0] rfl)
