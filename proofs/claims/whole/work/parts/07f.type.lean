/-! ===== the reference: type ===== -/
theorem p256 (k : Nat) : 2 ^ (8 * k) = 256 ^ k := by rw [Nat.pow_mul]
/-- do the first k bytes fit, and how many are there -/
def tyF (n : Nat) : Nat → Bool × Nat
  | 0 => (true, 0)
  | k + 1 => ((tyF n k).1 && (decide (n / 256 ^ k % 256 = 0) || (inR (nI (n / 256 ^ k % 256)) (nI 32) (nI 126) && decide ((tyF n k).2 = k))), (tyF n k).2 + (if n / 256 ^ k % 256 = 0 then 0 else 1))
theorem tyF_le (n : Nat) : ∀ k, (tyF n k).2 ≤ k := by
  intro k
  induction k with
  | zero => exact Nat.le_refl _
  | succ k ih => rw [tyF]; simp only; split <;> omega
def kbType (np n : Nat) : Nat := if !(tyF n 8).1 then 1 else if 160 < np + (tyF n 8).2 then 2 else 0
def tyP (f : Nat → Int32) (np n : Nat) : Nat → (Nat → Int32)
  | 0 => f
  | k + 1 => upd (tyP f np n k) (np + k) (nI (n / 256 ^ k % 256))

set_option maxHeartbeats 4000000 in
set_option maxRecDepth 100000 in
theorem c_X8_byteOf (l : Launch) (D : va_G) (cy : Nat → ClassId) (ad : Nat → Nat) (Ls : List Nat) (st : XS) (n9 k : Nat) (hn64 : n9 < 2 ^ 64) (hk8 : k < 8) : xMi l yX8_byteOf cX8_byteOf 3 (some .int) 0 D cy ad Ls st [.long (lN n9), .int (nI k)] (fun r u => r = nI (n9 / 256 ^ k % 256) ∧ u = st) := by
  intro sz
  refine x_of sz (by decide +kernel) (Nat.le_of_ble_eq_true rfl) ?_
  intro p e s m args below meth c ls hx hb hr hlocks C hsz h hl
  have hl : lv_has ls 3 [(0, .long (lN n9)), (2, .int (nI k))] := hl
  obtain ⟨H, eH⟩ : ∃ z, z = s.heap := ⟨_, rfl⟩
  obtain ⟨locs, eL⟩ : ∃ z : List Loc, z = [] := ⟨_, rfl⟩
  rw [← eH, ← eL] at h
  rw [← eH, ← eL]
  clear eH eL
  refine lv_lload_n hx hb dX8_byteOf_0 rfl (lv_at hl 0 rfl) ?_
  refine lv_bipush (v := nI 8) hx hb dX8_byteOf_1 (by decide) ?_
  refine lv_iload_n hx hb dX8_byteOf_3 rfl (lv_at hl 1 rfl) ?_
  refine x_mulN hx hb dX8_byteOf_4 ?_
  refine lv_lushr hx hb dX8_byteOf_5 rfl ?_
  refine x_topl (y := lN (n9 / 256 ^ k)) (by rw [← p256]; exact wb_shr hn64 (by omega)) ?_
  refine lv_ldc2 (v := 255) hx hb C.2.2.2.1 (C.2.2.2.2.1 _ tb1052) dX8_byteOf_6 ?_
  refine lv_land hx hb dX8_byteOf_9 ?_
  refine x_topl (y := lN (n9 / 256 ^ k % 256)) (wb_mask (k := 8) (Nat.lt_of_le_of_lt (Nat.div_le_self _ _) hn64) (by decide)) ?_
  refine lv_l2i hx hb dX8_byteOf_10 rfl ?_
  refine x_topi (y := nI (n9 / 256 ^ k % 256)) (lN_i _) ?_
  exact x_iret C hr hlocks h ⟨rfl, rfl⟩ dX8_byteOf_11

set_option maxHeartbeats 4000000 in
set_option maxRecDepth 100000 in
theorem c_X8_type (l : Launch) (D : va_G) (cy : Nat → ClassId) (ad : Nat → Nat) (Ls : List Nat) (st : XS) (hM : ∀ k, k ∈ LsM → k ∈ Ls) (np : Nat) (hnp160 : np ≤ 160) (hnp : gi st 1 30 = nI np) (n9 : Nat) (hn64 : n9 < 2 ^ 64) : xMi l yX8_type cX8_type 7 (some .int) 1 D cy ad Ls st [.ref (ad 30), .long (lN n9)] (fun r u => (¬ kbType np n9 = 0 ∧ r = nI 0 ∧ u = si st 0 30 (nI (kbType np n9))) ∨ (kbType np n9 = 0 ∧ r = nI (np + (tyF n9 8).2) ∧ u = si (sa (si st 0 30 (nI 0)) 32 (tyP (ga st 32) np n9 (tyF n9 8).2)) 1 30 (nI (np + (tyF n9 8).2)))) := by
  intro sz
  refine x_of sz (by decide +kernel) (Nat.le_of_ble_eq_true rfl) ?_
  intro p e s m args below meth c ls hx hb hr hlocks C hsz h hl
  have hl : lv_has ls 7 [(0, .ref (ad 30)), (1, .long (lN n9))] := hl
  obtain ⟨H, eH⟩ : ∃ z, z = s.heap := ⟨_, rfl⟩
  obtain ⟨locs, eL⟩ : ∃ z : List Loc, z = [] := ⟨_, rfl⟩
  rw [← eH, ← eL] at h
  rw [← eH, ← eL]
  clear eH eL
  refine lv_iconst (v := nI 1) hx hb dX8_type_0 (by decide) ?_
  refine lv_istore_n (lv' := [(3, .int (nI 1)), (0, .ref (ad 30)), (1, .long (lN n9))]) hx hb dX8_type_1 rfl hl (by decide) rfl (fun ls hl => ?_)
  refine lv_iconst (v := nI 0) hx hb dX8_type_2 (by decide) ?_
  refine lv_istore (lv' := [(4, .int (nI 0)), (3, .int (nI 1)), (0, .ref (ad 30)), (1, .long (lN n9))]) hx hb dX8_type_3 hl (by decide) rfl (fun ls hl => ?_)
  refine lv_iconst (v := nI 0) hx hb dX8_type_5 (by decide) ?_
  refine lv_istore (lv' := [(5, .int (nI 0)), (4, .int (nI 0)), (3, .int (nI 1)), (0, .ref (ad 30)), (1, .long (lN n9))]) hx hb dX8_type_6 hl (by decide) rfl (fun ls hl => ?_)
  have L8 : ∀ (N8 : Nat) (k : Nat) (fi : Bool) (mo : Nat) (hq : (fi, mo) = tyF n9 k) (hmk : mo ≤ k) (hk : k ≤ 8) (hN : 8 - k < N8) (H : Heap) (locs : List Loc) (ls : Array Slot), xH D cy ad Ls (XA ad Ls sz) s st H locs → lv_has ls 7 [(0, .ref (ad 30)), (1, .long (lN n9)), (3, .int (bi fi)), (4, .int (nI mo)), (5, .int (nI k))] → W p l e (xR 1) s m args below meth c H locs 0 0 (MQ below (va_Qi (fun r u => (¬ kbType np n9 = 0 ∧ r = nI 0 ∧ u = si st 0 30 (nI (kbType np n9))) ∨ (kbType np n9 = 0 ∧ r = nI (np + (tyF n9 8).2) ∧ u = si (sa (si st 0 30 (nI 0)) 32 (tyP (ga st 32) np n9 (tyF n9 8).2)) 1 30 (nI (np + (tyF n9 8).2)))) (fun u => xPost D cy ad Ls (XA ad Ls sz) u) (XA ad Ls sz)) args s 0 0 (XA ad Ls sz)) (F0 m 8 ls []) := by
    intro N8
    induction N8 with
    | zero => intro k fi mo hq hmk hk hN; omega
    | succ N8 ih8 =>
      intro k fi mo hq hmk hk hN H locs ls h hl
      refine lv_iload hx hb dX8_type_8 (lv_at hl 4 rfl) ?_
      refine lv_bipush (v := nI 8) hx hb dX8_type_10 (by decide) ?_
      refine x_icmpN_ge (tgt := 78) hx hb dX8_type_12 (by decide) (by omega) (by omega) (fun c12 => ?_) (fun c12 => ?_)
      · have ek : k = 8 := by omega
        rw [ek] at hq
        have hT : tyF n9 8 = (fi, mo) := hq.symm
        have hmo : mo ≤ 8 := by have := tyF_le n9 8; rw [hT] at this; exact this
        refine lv_aload_n hx hb dX8_type_78 rfl (lv_at hl 0 rfl) ?_
        refine lv_iload_n hx hb dX8_type_79 rfl (lv_at hl 2 rfl) ?_
        refine x_ifb_ne (tgt := 87) hx hb dX8_type_80 (by decide) (fun c80 => ?_) (fun c80 => ?_)
        · refine lv_aload_n hx hb dX8_type_87 rfl (lv_at hl 0 rfl) ?_
          refine gf_X8_124 C h (hM 30 (by decide)) rfl dX8_type_88 ?_
          refine x_topi hnp ?_
          refine lv_iload hx hb dX8_type_91 (lv_at hl 3 rfl) ?_
          refine x_addN hx hb dX8_type_93 ?_
          refine lv_sipush (v := nI 160) hx hb dX8_type_94 (by decide) ?_
          refine x_icmpN_le (tgt := 104) hx hb dX8_type_97 (by decide) (by omega) (by omega) (fun c97 => ?_) (fun c97 => ?_)
          · refine lv_iconst (v := nI 0) hx hb dX8_type_104 (by decide) ?_
            refine pf_X8_110 C h (hM 30 (by decide)) rfl dX8_type_105 (fun H locs u1 eu1 h => ?_)
            have e2 : gi u1 1 30 = nI np := by rw [eu1, gi_si, if_neg (by omega)]; exact hnp
            have e3 : gi u1 0 30 = nI 0 := by rw [eu1, gi_si, if_pos ⟨rfl, rfl⟩]
            refine lv_aload_n hx hb dX8_type_108 rfl (lv_at hl 0 rfl) ?_
            refine gf_X8_110 C h (hM 30 (by decide)) rfl dX8_type_109 ?_
            refine x_topi e3 ?_
            refine x_ifN_le (tgt := 117) hx hb dX8_type_112 (by decide) (by decide) (fun _ => ?_) (fun z9 => absurd z9 (by decide))
            refine lv_iconst (v := nI 0) hx hb dX8_type_117 (by decide) ?_
            refine lv_istore (lv' := [(5, .int (nI 0)), (0, .ref (ad 30)), (1, .long (lN n9)), (3, .int (bi fi)), (4, .int (nI mo))]) hx hb dX8_type_118 hl (by decide) rfl (fun ls hl => ?_)
            have L120 : ∀ (N120 : Nat) (v2 : XS) (k2 : Nat) (hv2 : v2 = sa (si st 0 30 (nI 0)) 32 (tyP (ga st 32) np n9 k2)) (hk2 : k2 ≤ mo) (hN : mo - k2 < N120) (H : Heap) (locs : List Loc) (ls : Array Slot), xH D cy ad Ls (XA ad Ls sz) s v2 H locs → lv_has ls 7 [(0, .ref (ad 30)), (1, .long (lN n9)), (4, .int (nI mo)), (5, .int (nI k2))] → W p l e (xR 1) s m args below meth c H locs 0 0 (MQ below (va_Qi (fun r u => (¬ kbType np n9 = 0 ∧ r = nI 0 ∧ u = si st 0 30 (nI (kbType np n9))) ∨ (kbType np n9 = 0 ∧ r = nI (np + (tyF n9 8).2) ∧ u = si (sa (si st 0 30 (nI 0)) 32 (tyP (ga st 32) np n9 (tyF n9 8).2)) 1 30 (nI (np + (tyF n9 8).2)))) (fun u => xPost D cy ad Ls (XA ad Ls sz) u) (XA ad Ls sz)) args s 0 0 (XA ad Ls sz)) (F0 m 120 ls []) := by
              intro N120
              induction N120 with
              | zero => intro v2 k2 hv2 hk2 hN; omega
              | succ N120 ih120 =>
                intro v2 k2 hv2 hk2 hN H locs ls h hl
                refine lv_iload hx hb dX8_type_120 (lv_at hl 3 rfl) ?_
                refine lv_iload hx hb dX8_type_122 (lv_at hl 2 rfl) ?_
                refine x_icmpN_ge (tgt := 151) hx hb dX8_type_124 (by decide) (by omega) (by omega) (fun c124 => ?_) (fun c124 => ?_)
                · refine lv_aload_n hx hb dX8_type_151 rfl (lv_at hl 0 rfl) ?_
                  refine lv_dup hx hb dX8_type_152 rfl ?_
                  refine gf_X8_124 C h (hM 30 (by decide)) rfl dX8_type_153 ?_
                  refine x_topi (show gi v2 1 30 = nI np by rw [hv2]; exact hnp) ?_
                  refine lv_iload hx hb dX8_type_156 (lv_at hl 2 rfl) ?_
                  refine x_addN hx hb dX8_type_158 ?_
                  refine pf_X8_124 C h (hM 30 (by decide)) rfl dX8_type_159 (fun H locs u4 eu4 h => ?_)
                  have e6 : ga u4 32 = (tyP (ga st 32) np n9 k2) := by rw [eu4]; exact (show ga v2 32 = tyP (ga st 32) np n9 k2 by rw [hv2]; exact ga_self ..)
                  have e7 : gi u4 1 30 = nI (np + mo) := by rw [eu4, gi_si, if_pos ⟨rfl, rfl⟩]
                  refine lv_aload_n hx hb dX8_type_162 rfl (lv_at hl 0 rfl) ?_
                  refine gf_X8_124 C h (hM 30 (by decide)) rfl dX8_type_163 ?_
                  refine x_topi e7 ?_
                  exact x_iret C hr hlocks h (Or.inr ⟨by rw [kbType, hT]; simp only [if_true, if_false, Bool.not_true, Bool.not_false, Bool.and_true, Bool.true_and, Bool.and_false, Bool.false_and, Bool.or_true, Bool.true_or, Bool.or_false, Bool.false_or, Bool.false_eq_true, eq_self, decide_true, decide_false, c80]; exact if_neg (by omega), by rw [hT], by rw [hT, eu4, hv2, show k2 = mo by omega]⟩) dX8_type_166
                · refine lv_aload_n hx hb dX8_type_127 rfl (lv_at hl 0 rfl) ?_
                  refine gf_X8_7 C h (hM 30 (by decide)) rfl (k2 := 32) rfl dX8_type_128 ?_
                  refine lv_aload_n hx hb dX8_type_131 rfl (lv_at hl 0 rfl) ?_
                  refine gf_X8_124 C h (hM 30 (by decide)) rfl dX8_type_132 ?_
                  refine x_topi (show gi v2 1 30 = nI np by rw [hv2]; exact hnp) ?_
                  refine lv_iload hx hb dX8_type_135 (lv_at hl 3 rfl) ?_
                  refine x_addN hx hb dX8_type_137 ?_
                  refine lv_lload_n hx hb dX8_type_138 rfl (lv_at hl 1 rfl) ?_
                  refine lv_iload hx hb dX8_type_139 (lv_at hl 3 rfl) ?_
                  refine cl_X8_116 C h (c_X8_byteOf l D cy ad Ls v2 n9 k2 hn64 (by omega)) (x_room (by omega)) ⟨Nat.zero_le _, Nat.zero_le _⟩ hl.1 (Nat.le_of_ble_eq_true rfl) dX8_type_141 (fun r9 u8 H locs hp h => ?_)
                  obtain ⟨er9, eu8⟩ := hp; rw [eu8] at h; clear eu8 u8; refine x_topi er9 ?_; clear er9 r9
                  have hsg : n9 / 256 ^ k2 % 256 < 256 := Nat.mod_lt _ (by decide)
                  refine x_ast C h (hM 32 (by decide)) (n := 160) rfl (np + k2) (by omega) (by decide) rfl dX8_type_144 (fun H locs u10 eu10 h => ?_)
                  have e11 : gi u10 1 30 = nI np := by rw [eu10]; exact (show gi v2 1 30 = nI np by rw [hv2]; exact hnp)
                  have e13 : ga u10 32 = (upd (tyP (ga st 32) np n9 k2) (np + k2) (nI (n9 / 256 ^ k2 % 256))) := by rw [eu10, ga_self, (show ga v2 32 = tyP (ga st 32) np n9 k2 by rw [hv2]; exact ga_self ..)]
                  refine lv_iinc (v := nI (k2 + 1)) (lv' := [(5, .int (nI (k2 + 1))), (0, .ref (ad 30)), (1, .long (lN n9)), (4, .int (nI mo))]) hx hb dX8_type_145 hl (k := 3) rfl (nI_add _ _) (by decide) rfl (fun ls hl => ?_)
                  refine lv_goto (tgt := 120) hx hb dX8_type_148 (by decide) ?_
                  exact ih120 u10 (k2 + 1) (by rw [eu10, hv2, sa_sa, ga_self]; rfl) (by omega) (by omega) H locs ls h (lv_sub hl [1, 2, 3, 0] rfl)
            exact L120 (mo + 1) u1 0 (by rw [eu1]; exact (sa_id (si st 0 30 (nI 0)) 32).symm) (by omega) (by omega) H locs ls h (lv_sub hl [1, 2, 4, 0] rfl)
          · refine lv_iconst (v := nI 2) hx hb dX8_type_100 (by decide) ?_
            refine lv_goto (tgt := 105) hx hb dX8_type_101 (by decide) ?_
            refine pf_X8_110 C h (hM 30 (by decide)) rfl dX8_type_105 (fun H locs u14 eu14 h => ?_)
            have e15 : gi u14 1 30 = nI np := by rw [eu14, gi_si, if_neg (by omega)]; exact hnp
            have e16 : gi u14 0 30 = nI 2 := by rw [eu14, gi_si, if_pos ⟨rfl, rfl⟩]
            refine lv_aload_n hx hb dX8_type_108 rfl (lv_at hl 0 rfl) ?_
            refine gf_X8_110 C h (hM 30 (by decide)) rfl dX8_type_109 ?_
            refine x_topi e16 ?_
            refine x_ifN_le (tgt := 117) hx hb dX8_type_112 (by decide) (by decide) (fun z9 => absurd z9 (by decide)) (fun _ => ?_)
            refine lv_iconst (v := nI 0) hx hb dX8_type_115 (by decide) ?_
            exact x_iret C hr hlocks h (Or.inl ⟨by rw [show kbType np n9 = 2 from by rw [kbType, hT]; simp only [if_true, if_false, Bool.not_true, Bool.not_false, Bool.and_true, Bool.true_and, Bool.and_false, Bool.false_and, Bool.or_true, Bool.true_or, Bool.or_false, Bool.false_or, Bool.false_eq_true, eq_self, decide_true, decide_false, c80]; exact if_pos c97]; decide, rfl, by rw [eu14, show kbType np n9 = 2 from by rw [kbType, hT]; simp only [if_true, if_false, Bool.not_true, Bool.not_false, Bool.and_true, Bool.true_and, Bool.and_false, Bool.false_and, Bool.or_true, Bool.true_or, Bool.or_false, Bool.false_or, Bool.false_eq_true, eq_self, decide_true, decide_false, c80]; exact if_pos c97]⟩) dX8_type_116
        · refine lv_iconst (v := nI 1) hx hb dX8_type_83 (by decide) ?_
          refine lv_goto (tgt := 105) hx hb dX8_type_84 (by decide) ?_
          refine pf_X8_110 C h (hM 30 (by decide)) rfl dX8_type_105 (fun H locs u17 eu17 h => ?_)
          have e18 : gi u17 1 30 = nI np := by rw [eu17, gi_si, if_neg (by omega)]; exact hnp
          have e19 : gi u17 0 30 = nI 1 := by rw [eu17, gi_si, if_pos ⟨rfl, rfl⟩]
          refine lv_aload_n hx hb dX8_type_108 rfl (lv_at hl 0 rfl) ?_
          refine gf_X8_110 C h (hM 30 (by decide)) rfl dX8_type_109 ?_
          refine x_topi e19 ?_
          refine x_ifN_le (tgt := 117) hx hb dX8_type_112 (by decide) (by decide) (fun z9 => absurd z9 (by decide)) (fun _ => ?_)
          refine lv_iconst (v := nI 0) hx hb dX8_type_115 (by decide) ?_
          exact x_iret C hr hlocks h (Or.inl ⟨by rw [show kbType np n9 = 1 from by rw [kbType, hT]; simp only [if_true, if_false, Bool.not_true, Bool.not_false, Bool.and_true, Bool.true_and, Bool.and_false, Bool.false_and, Bool.or_true, Bool.true_or, Bool.or_false, Bool.false_or, Bool.false_eq_true, eq_self, decide_true, decide_false, c80]]; decide, rfl, by rw [eu17, show kbType np n9 = 1 from by rw [kbType, hT]; simp only [if_true, if_false, Bool.not_true, Bool.not_false, Bool.and_true, Bool.true_and, Bool.and_false, Bool.false_and, Bool.or_true, Bool.true_or, Bool.or_false, Bool.false_or, Bool.false_eq_true, eq_self, decide_true, decide_false, c80]]⟩) dX8_type_116
      · refine lv_lload_n hx hb dX8_type_15 rfl (lv_at hl 1 rfl) ?_
        refine lv_iload hx hb dX8_type_16 (lv_at hl 4 rfl) ?_
        refine cl_X8_116 C h (c_X8_byteOf l D cy ad Ls st n9 k hn64 (by omega)) (x_room (by omega)) ⟨Nat.zero_le _, Nat.zero_le _⟩ hl.1 (Nat.le_of_ble_eq_true rfl) dX8_type_18 (fun r21 u20 H locs hp h => ?_)
        obtain ⟨er21, eu20⟩ := hp; rw [eu20] at h; clear eu20 u20; refine x_topi er21 ?_; clear er21 r21
        have hsg : n9 / 256 ^ k % 256 < 256 := Nat.mod_lt _ (by decide)
        refine lv_istore (lv' := [(6, .int (nI (n9 / 256 ^ k % 256))), (0, .ref (ad 30)), (1, .long (lN n9)), (3, .int (bi fi)), (4, .int (nI mo)), (5, .int (nI k))]) hx hb dX8_type_21 hl (by decide) rfl (fun ls hl => ?_)
        refine lv_iload_n hx hb dX8_type_23 rfl (lv_at hl 3 rfl) ?_
        refine x_ifb_eq (tgt := 55) hx hb dX8_type_24 (by decide) (fun c24 => ?_) (fun c24 => ?_)
        · refine lv_iconst (v := nI 0) hx hb dX8_type_55 (by decide) ?_
          refine lv_istore_n (lv' := [(3, .int (nI 0)), (6, .int (nI (n9 / 256 ^ k % 256))), (0, .ref (ad 30)), (1, .long (lN n9)), (4, .int (nI mo)), (5, .int (nI k))]) hx hb dX8_type_56 rfl hl (by decide) rfl (fun ls hl => ?_)
          refine lv_iload hx hb dX8_type_57 (lv_at hl 4 rfl) ?_
          refine lv_iload hx hb dX8_type_59 (lv_at hl 1 rfl) ?_
          refine x_ifN_ne (tgt := 68) hx hb dX8_type_61 (by decide) (by omega) (fun c61 => ?_) (fun c61 => ?_)
          · refine lv_iconst (v := nI 1) hx hb dX8_type_68 (by decide) ?_
            refine x_addN hx hb dX8_type_69 ?_
            refine lv_istore (lv' := [(4, .int (nI (mo + 1))), (3, .int (nI 0)), (6, .int (nI (n9 / 256 ^ k % 256))), (0, .ref (ad 30)), (1, .long (lN n9)), (5, .int (nI k))]) hx hb dX8_type_70 hl (by decide) rfl (fun ls hl => ?_)
            refine lv_iinc (v := nI (k + 1)) (lv' := [(5, .int (nI (k + 1))), (4, .int (nI (mo + 1))), (3, .int (nI 0)), (6, .int (nI (n9 / 256 ^ k % 256))), (0, .ref (ad 30)), (1, .long (lN n9))]) hx hb dX8_type_72 hl (k := 5) rfl (nI_add _ _) (by decide) rfl (fun ls hl => ?_)
            refine lv_goto (tgt := 8) hx hb dX8_type_75 (by decide) ?_
            exact ih8 (k + 1) (false) ((mo + 1)) (by rw [tyF, ← hq]; simp only [if_true, if_false, Bool.not_true, Bool.not_false, Bool.and_true, Bool.true_and, Bool.and_false, Bool.false_and, Bool.or_true, Bool.true_or, Bool.or_false, Bool.false_or, Bool.false_eq_true, eq_self, decide_true, decide_false, Nat.add_zero, reduceIte, c24, c61, Nat.not_le.mpr c12]) (by omega) (by omega) (by omega) H locs ls h (lv_sub hl [4, 5, 2, 1, 0] rfl)
          · refine lv_iconst (v := nI 0) hx hb dX8_type_64 (by decide) ?_
            refine lv_goto (tgt := 69) hx hb dX8_type_65 (by decide) ?_
            refine x_addN hx hb dX8_type_69 ?_
            refine lv_istore (lv' := [(4, .int (nI (mo + 0))), (3, .int (nI 0)), (6, .int (nI (n9 / 256 ^ k % 256))), (0, .ref (ad 30)), (1, .long (lN n9)), (5, .int (nI k))]) hx hb dX8_type_70 hl (by decide) rfl (fun ls hl => ?_)
            refine lv_iinc (v := nI (k + 1)) (lv' := [(5, .int (nI (k + 1))), (4, .int (nI (mo + 0))), (3, .int (nI 0)), (6, .int (nI (n9 / 256 ^ k % 256))), (0, .ref (ad 30)), (1, .long (lN n9))]) hx hb dX8_type_72 hl (k := 5) rfl (nI_add _ _) (by decide) rfl (fun ls hl => ?_)
            refine lv_goto (tgt := 8) hx hb dX8_type_75 (by decide) ?_
            exact ih8 (k + 1) (false) ((mo + 0)) (by rw [tyF, ← hq]; simp only [if_true, if_false, Bool.not_true, Bool.not_false, Bool.and_true, Bool.true_and, Bool.and_false, Bool.false_and, Bool.or_true, Bool.true_or, Bool.or_false, Bool.false_or, Bool.false_eq_true, eq_self, decide_true, decide_false, Nat.add_zero, reduceIte, c24, c61, Nat.not_le.mpr c12]) (by omega) (by omega) (by omega) H locs ls h (lv_sub hl [4, 5, 2, 1, 0] rfl)
        · refine lv_iload hx hb dX8_type_27 (lv_at hl 0 rfl) ?_
          refine x_ifN_eq (tgt := 51) hx hb dX8_type_29 (by decide) (by omega) (fun c29 => ?_) (fun c29 => ?_)
          · refine lv_iconst (v := nI 1) hx hb dX8_type_51 (by decide) ?_
            refine lv_goto (tgt := 56) hx hb dX8_type_52 (by decide) ?_
            refine lv_istore_n (lv' := [(3, .int (nI 1)), (6, .int (nI (n9 / 256 ^ k % 256))), (0, .ref (ad 30)), (1, .long (lN n9)), (4, .int (nI mo)), (5, .int (nI k))]) hx hb dX8_type_56 rfl hl (by decide) rfl (fun ls hl => ?_)
            refine lv_iload hx hb dX8_type_57 (lv_at hl 4 rfl) ?_
            refine lv_iload hx hb dX8_type_59 (lv_at hl 1 rfl) ?_
            refine x_ifN_ne (tgt := 68) hx hb dX8_type_61 (by decide) (by omega) (fun c61 => ?_) (fun c61 => ?_)
            · exact absurd c29 c61
            · refine lv_iconst (v := nI 0) hx hb dX8_type_64 (by decide) ?_
              refine lv_goto (tgt := 69) hx hb dX8_type_65 (by decide) ?_
              refine x_addN hx hb dX8_type_69 ?_
              refine lv_istore (lv' := [(4, .int (nI (mo + 0))), (3, .int (nI 1)), (6, .int (nI (n9 / 256 ^ k % 256))), (0, .ref (ad 30)), (1, .long (lN n9)), (5, .int (nI k))]) hx hb dX8_type_70 hl (by decide) rfl (fun ls hl => ?_)
              refine lv_iinc (v := nI (k + 1)) (lv' := [(5, .int (nI (k + 1))), (4, .int (nI (mo + 0))), (3, .int (nI 1)), (6, .int (nI (n9 / 256 ^ k % 256))), (0, .ref (ad 30)), (1, .long (lN n9))]) hx hb dX8_type_72 hl (k := 5) rfl (nI_add _ _) (by decide) rfl (fun ls hl => ?_)
              refine lv_goto (tgt := 8) hx hb dX8_type_75 (by decide) ?_
              exact ih8 (k + 1) (true) ((mo + 0)) (by rw [tyF, ← hq]; simp only [if_true, if_false, Bool.not_true, Bool.not_false, Bool.and_true, Bool.true_and, Bool.and_false, Bool.false_and, Bool.or_true, Bool.true_or, Bool.or_false, Bool.false_or, Bool.false_eq_true, eq_self, decide_true, decide_false, Nat.add_zero, reduceIte, c24, c29, c61, Nat.not_le.mpr c12]) (by omega) (by omega) (by omega) H locs ls h (lv_sub hl [4, 5, 2, 1, 0] rfl)
          · refine lv_iload hx hb dX8_type_32 (lv_at hl 0 rfl) ?_
            refine lv_bipush (v := nI 32) hx hb dX8_type_34 (by decide) ?_
            refine lv_bipush (v := nI 126) hx hb dX8_type_36 (by decide) ?_
            refine cl_X8_120 C h (c_X8_isIn l D cy ad Ls st (nI (n9 / 256 ^ k % 256)) (nI 32) (nI 126)) (x_room (by omega)) ⟨Nat.zero_le _, Nat.zero_le _⟩ hl.1 (Nat.le_of_ble_eq_true rfl) dX8_type_38 (fun r23 u22 H locs hp h => ?_)
            obtain ⟨er23, eu22⟩ := hp; rw [eu22] at h; clear eu22 u22; refine x_topi er23 ?_; clear er23 r23
            refine x_ifb_eq (tgt := 55) hx hb dX8_type_41 (by decide) (fun c41 => ?_) (fun c41 => ?_)
            · refine lv_iconst (v := nI 0) hx hb dX8_type_55 (by decide) ?_
              refine lv_istore_n (lv' := [(3, .int (nI 0)), (6, .int (nI (n9 / 256 ^ k % 256))), (0, .ref (ad 30)), (1, .long (lN n9)), (4, .int (nI mo)), (5, .int (nI k))]) hx hb dX8_type_56 rfl hl (by decide) rfl (fun ls hl => ?_)
              refine lv_iload hx hb dX8_type_57 (lv_at hl 4 rfl) ?_
              refine lv_iload hx hb dX8_type_59 (lv_at hl 1 rfl) ?_
              refine x_ifN_ne (tgt := 68) hx hb dX8_type_61 (by decide) (by omega) (fun c61 => ?_) (fun c61 => ?_)
              · refine lv_iconst (v := nI 1) hx hb dX8_type_68 (by decide) ?_
                refine x_addN hx hb dX8_type_69 ?_
                refine lv_istore (lv' := [(4, .int (nI (mo + 1))), (3, .int (nI 0)), (6, .int (nI (n9 / 256 ^ k % 256))), (0, .ref (ad 30)), (1, .long (lN n9)), (5, .int (nI k))]) hx hb dX8_type_70 hl (by decide) rfl (fun ls hl => ?_)
                refine lv_iinc (v := nI (k + 1)) (lv' := [(5, .int (nI (k + 1))), (4, .int (nI (mo + 1))), (3, .int (nI 0)), (6, .int (nI (n9 / 256 ^ k % 256))), (0, .ref (ad 30)), (1, .long (lN n9))]) hx hb dX8_type_72 hl (k := 5) rfl (nI_add _ _) (by decide) rfl (fun ls hl => ?_)
                refine lv_goto (tgt := 8) hx hb dX8_type_75 (by decide) ?_
                exact ih8 (k + 1) (false) ((mo + 1)) (by rw [tyF, ← hq]; simp only [if_true, if_false, Bool.not_true, Bool.not_false, Bool.and_true, Bool.true_and, Bool.and_false, Bool.false_and, Bool.or_true, Bool.true_or, Bool.or_false, Bool.false_or, Bool.false_eq_true, eq_self, decide_true, decide_false, Nat.add_zero, reduceIte, c24, c29, c41, c61, Nat.not_le.mpr c12]) (by omega) (by omega) (by omega) H locs ls h (lv_sub hl [4, 5, 2, 1, 0] rfl)
              · exact absurd c61 c29
            · refine lv_iload hx hb dX8_type_44 (lv_at hl 4 rfl) ?_
              refine lv_iload hx hb dX8_type_46 (lv_at hl 5 rfl) ?_
              refine x_icmpN_ne (tgt := 55) hx hb dX8_type_48 (by decide) (by omega) (by omega) (fun c48 => ?_) (fun c48 => ?_)
              · refine lv_iconst (v := nI 0) hx hb dX8_type_55 (by decide) ?_
                refine lv_istore_n (lv' := [(3, .int (nI 0)), (6, .int (nI (n9 / 256 ^ k % 256))), (0, .ref (ad 30)), (1, .long (lN n9)), (4, .int (nI mo)), (5, .int (nI k))]) hx hb dX8_type_56 rfl hl (by decide) rfl (fun ls hl => ?_)
                refine lv_iload hx hb dX8_type_57 (lv_at hl 4 rfl) ?_
                refine lv_iload hx hb dX8_type_59 (lv_at hl 1 rfl) ?_
                refine x_ifN_ne (tgt := 68) hx hb dX8_type_61 (by decide) (by omega) (fun c61 => ?_) (fun c61 => ?_)
                · refine lv_iconst (v := nI 1) hx hb dX8_type_68 (by decide) ?_
                  refine x_addN hx hb dX8_type_69 ?_
                  refine lv_istore (lv' := [(4, .int (nI (mo + 1))), (3, .int (nI 0)), (6, .int (nI (n9 / 256 ^ k % 256))), (0, .ref (ad 30)), (1, .long (lN n9)), (5, .int (nI k))]) hx hb dX8_type_70 hl (by decide) rfl (fun ls hl => ?_)
                  refine lv_iinc (v := nI (k + 1)) (lv' := [(5, .int (nI (k + 1))), (4, .int (nI (mo + 1))), (3, .int (nI 0)), (6, .int (nI (n9 / 256 ^ k % 256))), (0, .ref (ad 30)), (1, .long (lN n9))]) hx hb dX8_type_72 hl (k := 5) rfl (nI_add _ _) (by decide) rfl (fun ls hl => ?_)
                  refine lv_goto (tgt := 8) hx hb dX8_type_75 (by decide) ?_
                  exact ih8 (k + 1) (false) ((mo + 1)) (by rw [tyF, ← hq]; simp only [if_true, if_false, Bool.not_true, Bool.not_false, Bool.and_true, Bool.true_and, Bool.and_false, Bool.false_and, Bool.or_true, Bool.true_or, Bool.or_false, Bool.false_or, Bool.false_eq_true, eq_self, decide_true, decide_false, Nat.add_zero, reduceIte, c24, c29, c41, c48, c61, Nat.not_le.mpr c12]) (by omega) (by omega) (by omega) H locs ls h (lv_sub hl [4, 5, 2, 1, 0] rfl)
                · exact absurd c61 c29
              · refine lv_iconst (v := nI 1) hx hb dX8_type_51 (by decide) ?_
                refine lv_goto (tgt := 56) hx hb dX8_type_52 (by decide) ?_
                refine lv_istore_n (lv' := [(3, .int (nI 1)), (6, .int (nI (n9 / 256 ^ k % 256))), (0, .ref (ad 30)), (1, .long (lN n9)), (4, .int (nI mo)), (5, .int (nI k))]) hx hb dX8_type_56 rfl hl (by decide) rfl (fun ls hl => ?_)
                refine lv_iload hx hb dX8_type_57 (lv_at hl 4 rfl) ?_
                refine lv_iload hx hb dX8_type_59 (lv_at hl 1 rfl) ?_
                refine x_ifN_ne (tgt := 68) hx hb dX8_type_61 (by decide) (by omega) (fun c61 => ?_) (fun c61 => ?_)
                · refine lv_iconst (v := nI 1) hx hb dX8_type_68 (by decide) ?_
                  refine x_addN hx hb dX8_type_69 ?_
                  refine lv_istore (lv' := [(4, .int (nI (mo + 1))), (3, .int (nI 1)), (6, .int (nI (n9 / 256 ^ k % 256))), (0, .ref (ad 30)), (1, .long (lN n9)), (5, .int (nI k))]) hx hb dX8_type_70 hl (by decide) rfl (fun ls hl => ?_)
                  refine lv_iinc (v := nI (k + 1)) (lv' := [(5, .int (nI (k + 1))), (4, .int (nI (mo + 1))), (3, .int (nI 1)), (6, .int (nI (n9 / 256 ^ k % 256))), (0, .ref (ad 30)), (1, .long (lN n9))]) hx hb dX8_type_72 hl (k := 5) rfl (nI_add _ _) (by decide) rfl (fun ls hl => ?_)
                  refine lv_goto (tgt := 8) hx hb dX8_type_75 (by decide) ?_
                  exact ih8 (k + 1) (true) ((mo + 1)) (by rw [tyF, ← hq]; simp only [if_true, if_false, Bool.not_true, Bool.not_false, Bool.and_true, Bool.true_and, Bool.and_false, Bool.false_and, Bool.or_true, Bool.true_or, Bool.or_false, Bool.false_or, Bool.false_eq_true, eq_self, decide_true, decide_false, Nat.add_zero, reduceIte, c24, c29, c41, c48, c61, Nat.not_le.mpr c12]) (by omega) (by omega) (by omega) H locs ls h (lv_sub hl [4, 5, 2, 1, 0] rfl)
                · exact absurd c61 c29
  exact L8 9 0 true 0 rfl (by omega) (by omega) (by omega) H locs ls h (lv_sub hl [3, 4, 2, 1, 0] rfl)
