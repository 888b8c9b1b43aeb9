/-! ===== the reference: make ===== -/
def fcp (f : Nat → Int32) (m : Nat) (g : Nat → Int32) : Nat → (Nat → Int32)
  | 0 => f
  | k + 1 => upd (fcp f m g k) (m + k) (g k)
def sa5 (st : XS) (a b c d e : Nat → Int32) : XS := sa (sa (sa (sa (sa st 64 a) 65 b) 66 c) 67 d) 70 e
theorem sa5_s (st : XS) (a b c d e a' b' c' d' e' : Nat → Int32) : sa (sa (sa (sa (sa (sa5 st a b c d e) 64 a') 65 b') 66 c') 67 d') 70 e' = sa5 st a' b' c' d' e' := by
  unfold sa5
  refine XS_ext (fun _ _ => rfl) (fun _ _ => rfl) (fun _ _ => rfl) (fun k => ?_) (fun _ => rfl)
  simp only [ga_sa]
  by_cases k1 : k = 70
  · simp only [if_pos k1]
  · by_cases k2 : k = 67
    · simp only [if_neg k1, if_pos k2]
    · by_cases k3 : k = 66
      · simp only [if_neg k1, if_neg k2, if_pos k3]
      · by_cases k4 : k = 65
        · simp only [if_neg k1, if_neg k2, if_neg k3, if_pos k4]
        · by_cases k5 : k = 64
          · simp only [if_neg k1, if_neg k2, if_neg k3, if_neg k4, if_pos k5]
          · simp only [if_neg k1, if_neg k2, if_neg k3, if_neg k4, if_neg k5]
theorem sa5_id (st : XS) : sa5 st (ga st 64) (ga st 65) (ga st 66) (ga st 67) (ga st 70) = st := by
  unfold sa5
  refine XS_ext (fun _ _ => rfl) (fun _ _ => rfl) (fun _ _ => rfl) (fun k => ?_) (fun _ => rfl)
  simp only [ga_sa]
  by_cases k1 : k = 70
  · rw [if_pos k1, k1]
  · by_cases k2 : k = 67
    · rw [if_neg k1, if_pos k2, k2]
    · by_cases k3 : k = 66
      · rw [if_neg k1, if_neg k2, if_pos k3, k3]
      · by_cases k4 : k = 65
        · rw [if_neg k1, if_neg k2, if_neg k3, if_pos k4, k4]
        · by_cases k5 : k = 64
          · rw [if_neg k1, if_neg k2, if_neg k3, if_neg k4, if_pos k5, k5]
          · rw [if_neg k1, if_neg k2, if_neg k3, if_neg k4, if_neg k5]
def kbMake (b n : Nat) (c : Int32) : Nat := if !inR c (nI 0) (nI 9) then 1 else if n = 0 then 2 else if b = 30 then 2 else 0

theorem fcp_in {f : Nat → Int32} {m : Nat} {g : Nat → Int32} {n k : Nat} (h : k < n) : fcp f m g n (m + k) = g k := by
  induction n with
  | zero => omega
  | succ n ih =>
    show upd (fcp f m g n) (m + n) (g n) (m + k) = g k
    unfold upd
    by_cases hk : k = n
    · rw [if_pos (by omega), hk]
    · rw [if_neg (by omega)]; exact ih (by omega)
def mkW (st : XS) (b n pl : Nat) (c td : Int32) : XS := sa (sa (sa (sa (sa (si st 0 30 (nI 0)) 59 (upd (ga st 59) b c)) 60 (upd (ga st 60) b td)) 61 (upd (ga st 61) b (nI n))) 62 (upd (ga st 62) b (nI pl))) 63 (upd (ga st 63) b (ga st 52 pl))
def mkT (st : XS) (nt pl : Nat) (td : Int32) (k : Nat) : Option Nat := mtS st nt (nI pl) (ga st 55 k) td
def mkV (st : XS) (nt b n pl : Nat) (c td : Int32) (k : Nat) : XS := sa5 (mkW st b n pl c td) (fcp (ga st 64) (6 * b) (ga st 55) k) (fcp (ga st 65) (6 * b) (ga st 56) k) (fcp (ga st 66) (6 * b) (ga st 57) k) (fcp (ga st 67) (6 * b) (fun i => oI (mkT st nt pl td i)) k) (fup (ga st 70) (fun i => mrS st (mkT st nt pl td i)) k)
def mkZ (st : XS) (nt b n pl : Nat) (dk : Nat → Nat) (c td : Int32) : XS := si (si (sa (sa (mkV st nt b n pl c td n) 69 (msmF (mkV st nt b n pl c td n) dk b n)) 68 (upd (ga st 68) b (mtxN (mkV st nt b n pl c td n) dk b n))) 24 30 (nI 0)) 28 30 (nI (b + 1))

set_option maxHeartbeats 4000000 in
set_option maxRecDepth 100000 in
theorem c_X8_make (l : Launch) (D : va_G) (cy : Nat → ClassId) (ad : Nat → Nat) (Ls : List Nat) (st : XS) (hM : ∀ k, k ∈ LsM → k ∈ Ls) (nt : Nat) (hnt60 : nt ≤ 60) (hn17 : gi st 17 30 = nI nt) (b : Nat) (hb30 : b ≤ 30) (hn28 : gi st 28 30 = nI b) (n : Nat) (hn6 : n ≤ 6) (hn24 : gi st 24 30 = nI n) (td : Int32) (htd : gi st 16 30 = td) (cp : Nat → Nat) (hcp : ∀ j, j < 10 → cp j < 4 ∧ ga st 53 j = nI (cp j)) (dk : Nat → Nat) (hdk : ∀ k, k < n → dk k < 4 ∧ ga st 55 k = nI (dk k)) (c9 : Int32) : xMi l yX8_make cX8_make 5 (some .int) 3 D cy ad Ls st [.ref (ad 30), .int c9] (fun r u => (¬ kbMake b n c9 = 0 ∧ r = nI 0 ∧ u = si st 0 30 (nI (kbMake b n c9))) ∨ (kbMake b n c9 = 0 ∧ ∃ j : Nat, j < 10 ∧ c9 = nI j ∧ r = nI b ∧ u = mkZ st nt b n (cp j) dk c9 td)) := by
  intro sz
  refine x_of sz (by decide +kernel) (Nat.le_of_ble_eq_true rfl) ?_
  intro p e s m args below meth c ls hx hb hr hlocks C hsz h hl
  have hl : lv_has ls 5 [(0, .ref (ad 30)), (1, .int c9)] := hl
  obtain ⟨H, eH⟩ : ∃ z, z = s.heap := ⟨_, rfl⟩
  obtain ⟨locs, eL⟩ : ∃ z : List Loc, z = [] := ⟨_, rfl⟩
  rw [← eH, ← eL] at h
  rw [← eH, ← eL]
  clear eH eL
  refine lv_aload_n hx hb dX8_make_0 rfl (lv_at hl 0 rfl) ?_
  refine lv_iload_n hx hb dX8_make_1 rfl (lv_at hl 1 rfl) ?_
  refine lv_iconst (v := nI 0) hx hb dX8_make_2 (by decide) ?_
  refine lv_bipush (v := nI 9) hx hb dX8_make_3 (by decide) ?_
  refine cl_X8_120 C h (c_X8_isIn l D cy ad Ls st c9 (nI 0) (nI 9)) (x_room (by omega)) ⟨Nat.zero_le _, Nat.zero_le _⟩ hl.1 (Nat.le_of_ble_eq_true rfl) dX8_make_5 (fun r2 u1 H locs hp h => ?_)
  obtain ⟨er2, eu1⟩ := hp; rw [eu1] at h; clear eu1 u1; refine x_topi er2 ?_; clear er2 r2
  refine x_ifb_ne (tgt := 15) hx hb dX8_make_8 (by decide) (fun c8 => ?_) (fun c8 => ?_)
  · refine lv_aload_n hx hb dX8_make_15 rfl (lv_at hl 0 rfl) ?_
    refine gf_X8_200 C h (hM 30 (by decide)) rfl dX8_make_16 ?_
    refine x_topi hn24 ?_
    refine x_ifN_eq (tgt := 31) hx hb dX8_make_19 (by decide) (by omega) (fun c19 => ?_) (fun c19 => ?_)
    · refine lv_iconst (v := nI 2) hx hb dX8_make_31 (by decide) ?_
      refine lv_goto (tgt := 36) hx hb dX8_make_32 (by decide) ?_
      refine pf_X8_110 C h (hM 30 (by decide)) rfl dX8_make_36 (fun H locs u3 eu3 h => ?_)
      have e4 : gi u3 28 30 = nI b := by rw [eu3, gi_si, if_neg (by omega)]; exact hn28
      have e5 : gi u3 24 30 = nI n := by rw [eu3, gi_si, if_neg (by omega)]; exact hn24
      have e6 : gi u3 16 30 = td := by rw [eu3, gi_si, if_neg (by omega)]; exact htd
      have e7 : gi u3 0 30 = nI 2 := by rw [eu3, gi_si, if_pos ⟨rfl, rfl⟩]
      refine lv_aload_n hx hb dX8_make_39 rfl (lv_at hl 0 rfl) ?_
      refine gf_X8_110 C h (hM 30 (by decide)) rfl dX8_make_40 ?_
      refine x_topi e7 ?_
      refine x_ifN_le (tgt := 48) hx hb dX8_make_43 (by decide) (by decide) (fun z9 => absurd z9 (by decide)) (fun _ => ?_)
      refine lv_iconst (v := nI 0) hx hb dX8_make_46 (by decide) ?_
      exact x_iret C hr hlocks h (Or.inl ⟨by rw [show kbMake b n c9 = 2 from by simp only [kbMake, if_true, if_false, Bool.not_true, Bool.not_false, Bool.and_true, Bool.true_and, Bool.and_false, Bool.false_and, Bool.or_true, Bool.true_or, Bool.or_false, Bool.false_or, Bool.false_eq_true, eq_self, decide_true, decide_false, c8, c19]]; decide, rfl, by rw [eu3, show kbMake b n c9 = 2 from by simp only [kbMake, if_true, if_false, Bool.not_true, Bool.not_false, Bool.and_true, Bool.true_and, Bool.and_false, Bool.false_and, Bool.or_true, Bool.true_or, Bool.or_false, Bool.false_or, Bool.false_eq_true, eq_self, decide_true, decide_false, c8, c19]]⟩) dX8_make_47
    · refine lv_aload_n hx hb dX8_make_22 rfl (lv_at hl 0 rfl) ?_
      refine gf_X8_210 C h (hM 30 (by decide)) rfl dX8_make_23 ?_
      refine x_topi hn28 ?_
      refine lv_bipush (v := nI 30) hx hb dX8_make_26 (by decide) ?_
      refine x_icmpN_ne (tgt := 35) hx hb dX8_make_28 (by decide) (by omega) (by omega) (fun c28 => ?_) (fun c28 => ?_)
      · refine lv_iconst (v := nI 0) hx hb dX8_make_35 (by decide) ?_
        refine pf_X8_110 C h (hM 30 (by decide)) rfl dX8_make_36 (fun H locs u8 eu8 h => ?_)
        have e9 : gi u8 28 30 = nI b := by rw [eu8, gi_si, if_neg (by omega)]; exact hn28
        have e10 : gi u8 24 30 = nI n := by rw [eu8, gi_si, if_neg (by omega)]; exact hn24
        have e11 : gi u8 16 30 = td := by rw [eu8, gi_si, if_neg (by omega)]; exact htd
        have e12 : gi u8 0 30 = nI 0 := by rw [eu8, gi_si, if_pos ⟨rfl, rfl⟩]
        refine lv_aload_n hx hb dX8_make_39 rfl (lv_at hl 0 rfl) ?_
        refine gf_X8_110 C h (hM 30 (by decide)) rfl dX8_make_40 ?_
        refine x_topi e12 ?_
        refine x_ifN_le (tgt := 48) hx hb dX8_make_43 (by decide) (by decide) (fun _ => ?_) (fun z9 => absurd z9 (by decide))
        refine lv_aload_n hx hb dX8_make_48 rfl (lv_at hl 0 rfl) ?_
        refine gf_X8_53 C h (hM 30 (by decide)) rfl (k2 := 53) rfl dX8_make_49 ?_
        refine lv_iload_n hx hb dX8_make_52 rfl (lv_at hl 1 rfl) ?_
        obtain ⟨j, hj, ej⟩ := inR_j c8 (by decide)
        obtain ⟨pl, epl⟩ : ∃ y, y = cp j := ⟨_, rfl⟩
        obtain ⟨hpl, hplv⟩ := hcp j (by omega)
        rw [← epl] at hpl hplv
        refine x_ald C h (hM 53 (by decide)) (n := 10) rfl j (by omega) (by decide) ej dX8_make_53 ?_
        refine x_topi (y := nI pl) (by rw [eu8]; exact hplv) ?_
        refine lv_istore_n (lv' := [(2, .int (nI pl)), (0, .ref (ad 30)), (1, .int c9)]) hx hb dX8_make_54 rfl hl (by decide) rfl (fun ls hl => ?_)
        refine lv_aload_n hx hb dX8_make_55 rfl (lv_at hl 1 rfl) ?_
        refine gf_X8_65 C h (hM 30 (by decide)) rfl (k2 := 59) rfl dX8_make_56 ?_
        refine lv_aload_n hx hb dX8_make_59 rfl (lv_at hl 1 rfl) ?_
        refine gf_X8_210 C h (hM 30 (by decide)) rfl dX8_make_60 ?_
        refine x_topi e9 ?_
        refine lv_iload_n hx hb dX8_make_63 rfl (lv_at hl 2 rfl) ?_
        refine x_ast C h (hM 59 (by decide)) (n := 30) rfl b (by omega) (by decide) rfl dX8_make_64 (fun H locs u13 eu13 h => ?_)
        have e14 : gi u13 28 30 = nI b := by rw [eu13]; exact e9
        have e15 : gi u13 24 30 = nI n := by rw [eu13]; exact e10
        have e16 : gi u13 16 30 = td := by rw [eu13]; exact e11
        have e17 : gi u13 0 30 = nI 0 := by rw [eu13]; exact e12
        refine lv_aload_n hx hb dX8_make_65 rfl (lv_at hl 1 rfl) ?_
        refine gf_X8_68 C h (hM 30 (by decide)) rfl (k2 := 60) rfl dX8_make_66 ?_
        refine lv_aload_n hx hb dX8_make_69 rfl (lv_at hl 1 rfl) ?_
        refine gf_X8_210 C h (hM 30 (by decide)) rfl dX8_make_70 ?_
        refine x_topi e14 ?_
        refine lv_aload_n hx hb dX8_make_73 rfl (lv_at hl 1 rfl) ?_
        refine gf_X8_187 C h (hM 30 (by decide)) rfl dX8_make_74 ?_
        refine x_topi e16 ?_
        refine x_ast C h (hM 60 (by decide)) (n := 30) rfl b (by omega) (by decide) rfl dX8_make_77 (fun H locs u18 eu18 h => ?_)
        have e19 : gi u18 28 30 = nI b := by rw [eu18]; exact e14
        have e20 : gi u18 24 30 = nI n := by rw [eu18]; exact e15
        have e21 : gi u18 16 30 = td := by rw [eu18]; exact e16
        have e22 : gi u18 0 30 = nI 0 := by rw [eu18]; exact e17
        refine lv_aload_n hx hb dX8_make_78 rfl (lv_at hl 1 rfl) ?_
        refine gf_X8_71 C h (hM 30 (by decide)) rfl (k2 := 61) rfl dX8_make_79 ?_
        refine lv_aload_n hx hb dX8_make_82 rfl (lv_at hl 1 rfl) ?_
        refine gf_X8_210 C h (hM 30 (by decide)) rfl dX8_make_83 ?_
        refine x_topi e19 ?_
        refine lv_aload_n hx hb dX8_make_86 rfl (lv_at hl 1 rfl) ?_
        refine gf_X8_200 C h (hM 30 (by decide)) rfl dX8_make_87 ?_
        refine x_topi e20 ?_
        refine x_ast C h (hM 61 (by decide)) (n := 30) rfl b (by omega) (by decide) rfl dX8_make_90 (fun H locs u23 eu23 h => ?_)
        have e24 : gi u23 28 30 = nI b := by rw [eu23]; exact e19
        have e25 : gi u23 24 30 = nI n := by rw [eu23]; exact e20
        have e26 : gi u23 16 30 = td := by rw [eu23]; exact e21
        have e27 : gi u23 0 30 = nI 0 := by rw [eu23]; exact e22
        refine lv_aload_n hx hb dX8_make_91 rfl (lv_at hl 1 rfl) ?_
        refine gf_X8_74 C h (hM 30 (by decide)) rfl (k2 := 62) rfl dX8_make_92 ?_
        refine lv_aload_n hx hb dX8_make_95 rfl (lv_at hl 1 rfl) ?_
        refine gf_X8_210 C h (hM 30 (by decide)) rfl dX8_make_96 ?_
        refine x_topi e24 ?_
        refine lv_iload_n hx hb dX8_make_99 rfl (lv_at hl 0 rfl) ?_
        refine x_ast C h (hM 62 (by decide)) (n := 30) rfl b (by omega) (by decide) rfl dX8_make_100 (fun H locs u28 eu28 h => ?_)
        have e29 : gi u28 28 30 = nI b := by rw [eu28]; exact e24
        have e30 : gi u28 24 30 = nI n := by rw [eu28]; exact e25
        have e31 : gi u28 16 30 = td := by rw [eu28]; exact e26
        have e32 : gi u28 0 30 = nI 0 := by rw [eu28]; exact e27
        refine lv_aload_n hx hb dX8_make_101 rfl (lv_at hl 1 rfl) ?_
        refine gf_X8_77 C h (hM 30 (by decide)) rfl (k2 := 63) rfl dX8_make_102 ?_
        refine lv_aload_n hx hb dX8_make_105 rfl (lv_at hl 1 rfl) ?_
        refine gf_X8_210 C h (hM 30 (by decide)) rfl dX8_make_106 ?_
        refine x_topi e29 ?_
        refine lv_aload_n hx hb dX8_make_109 rfl (lv_at hl 1 rfl) ?_
        refine gf_X8_50 C h (hM 30 (by decide)) rfl (k2 := 52) rfl dX8_make_110 ?_
        refine lv_iload_n hx hb dX8_make_113 rfl (lv_at hl 0 rfl) ?_
        refine x_ald C h (hM 52 (by decide)) (n := 4) rfl pl (by omega) (by decide) rfl dX8_make_114 ?_
        refine x_topi (y := ga st 52 pl) (by rw [eu28, eu23, eu18, eu13, eu8]; rfl) ?_
        refine x_ast C h (hM 63 (by decide)) (n := 30) rfl b (by omega) (by decide) rfl dX8_make_115 (fun H locs u33 eu33 h => ?_)
        have e34 : gi u33 28 30 = nI b := by rw [eu33]; exact e29
        have e35 : gi u33 24 30 = nI n := by rw [eu33]; exact e30
        have e36 : gi u33 16 30 = td := by rw [eu33]; exact e31
        have e37 : gi u33 0 30 = nI 0 := by rw [eu33]; exact e32
        refine lv_iconst (v := nI 0) hx hb dX8_make_116 (by decide) ?_
        refine lv_istore_n (lv' := [(3, .int (nI 0)), (2, .int (nI pl)), (0, .ref (ad 30)), (1, .int c9)]) hx hb dX8_make_117 rfl hl (by decide) rfl (fun ls hl => ?_)
        have L118 : ∀ (N118 : Nat) (v : XS) (k : Nat) (hv : v = mkV st nt b n pl c9 td k) (hk : k ≤ n) (hN : n - k < N118) (H : Heap) (locs : List Loc) (ls : Array Slot), xH D cy ad Ls (XA ad Ls sz) s v H locs → lv_has ls 5 [(0, .ref (ad 30)), (1, .int c9), (2, .int (nI pl)), (3, .int (nI k))] → W p l e (xR 3) s m args below meth c H locs 0 0 (MQ below (va_Qi (fun r u => (¬ kbMake b n c9 = 0 ∧ r = nI 0 ∧ u = si st 0 30 (nI (kbMake b n c9))) ∨ (kbMake b n c9 = 0 ∧ ∃ j : Nat, j < 10 ∧ c9 = nI j ∧ r = nI b ∧ u = mkZ st nt b n (cp j) dk c9 td)) (fun u => xPost D cy ad Ls (XA ad Ls sz) u) (XA ad Ls sz)) args s 0 0 (XA ad Ls sz)) (F0 m 118 ls []) := by
          intro N118
          induction N118 with
          | zero => intro v k hv hk hN; omega
          | succ N118 ih118 =>
            intro v k hv hk hN H locs ls h hl
            have f24 : gi v 24 30 = nI n := by rw [hv]; exact hn24
            have f28 : gi v 28 30 = nI b := by rw [hv]; exact hn28
            have f16 : gi v 16 30 = td := by rw [hv]; exact htd
            have f17 : gi v 17 30 = nI nt := by rw [hv]; exact hn17
            have f55 : ga v 55 = ga st 55 := by rw [hv]; rfl
            have f56 : ga v 56 = ga st 56 := by rw [hv]; rfl
            have f57 : ga v 57 = ga st 57 := by rw [hv]; rfl
            have f64 : ga v 64 = fcp (ga st 64) (6 * b) (ga st 55) k := by rw [hv]; rfl
            have f65 : ga v 65 = fcp (ga st 65) (6 * b) (ga st 56) k := by rw [hv]; rfl
            have f66 : ga v 66 = fcp (ga st 66) (6 * b) (ga st 57) k := by rw [hv]; rfl
            have f67 : ga v 67 = fcp (ga st 67) (6 * b) (fun i => oI (mkT st nt pl td i)) k := by rw [hv]; rfl
            have f70 : ga v 70 = fup (ga st 70) (fun i => mrS st (mkT st nt pl td i)) k := by rw [hv]; rfl
            refine lv_iload_n hx hb dX8_make_118 rfl (lv_at hl 3 rfl) ?_
            refine lv_aload_n hx hb dX8_make_119 rfl (lv_at hl 0 rfl) ?_
            refine gf_X8_200 C h (hM 30 (by decide)) rfl dX8_make_120 ?_
            refine x_topi f24 ?_
            refine x_icmpN_ge (tgt := 221) hx hb dX8_make_123 (by decide) (by omega) (by omega) (fun c123 => ?_) (fun c123 => ?_)
            · refine lv_aload_n hx hb dX8_make_221 rfl (lv_at hl 0 rfl) ?_
              refine gf_X8_92 C h (hM 30 (by decide)) rfl (k2 := 68) rfl dX8_make_222 ?_
              refine lv_aload_n hx hb dX8_make_225 rfl (lv_at hl 0 rfl) ?_
              refine gf_X8_210 C h (hM 30 (by decide)) rfl dX8_make_226 ?_
              refine x_topi f28 ?_
              refine lv_aload_n hx hb dX8_make_229 rfl (lv_at hl 0 rfl) ?_
              refine lv_aload_n hx hb dX8_make_230 rfl (lv_at hl 0 rfl) ?_
              refine gf_X8_210 C h (hM 30 (by decide)) rfl dX8_make_231 ?_
              refine x_topi f28 ?_
              have ek : k = n := by omega
              rw [ek] at hv
              refine cl_X8_216 C h (hM 30 (by decide)) rfl (c_X8_taxBy l D cy ad Ls v hM b n (by omega) hn6 (by rw [hv]; exact if_pos rfl) dk (fun k hk => ⟨(hdk k hk).1, by rw [hv]; exact (fcp_in hk).trans (hdk k hk).2⟩)) (x_room (by omega)) ⟨Nat.zero_le _, Nat.zero_le _⟩ hl.1 (Nat.le_of_ble_eq_true rfl) dX8_make_234 (fun r39 u38 H locs hp h => ?_)
              obtain ⟨er, eu38⟩ := hp; refine x_topi er ?_; clear er r39
              have g24 : gi u38 24 30 = nI n := by rw [eu38]; exact f24
              have g28 : gi u38 28 30 = nI b := by rw [eu38]; exact f28
              refine x_ast C h (hM 68 (by decide)) (n := 30) rfl b (by omega) (by decide) rfl dX8_make_237 (fun H locs u40 eu40 h => ?_)
              have e41 : gi u40 24 30 = nI n := by rw [eu40]; exact g24
              have e42 : gi u40 28 30 = nI b := by rw [eu40]; exact g28
              refine lv_aload_n hx hb dX8_make_238 rfl (lv_at hl 0 rfl) ?_
              refine lv_iconst (v := nI 0) hx hb dX8_make_239 (by decide) ?_
              refine pf_X8_200 C h (hM 30 (by decide)) rfl dX8_make_240 (fun H locs u43 eu43 h => ?_)
              have e45 : gi u43 28 30 = nI b := by rw [eu43, gi_si, if_neg (by omega)]; exact e42
              have e46 : gi u43 24 30 = nI 0 := by rw [eu43, gi_si, if_pos ⟨rfl, rfl⟩]
              refine lv_aload_n hx hb dX8_make_243 rfl (lv_at hl 0 rfl) ?_
              refine lv_dup hx hb dX8_make_244 rfl ?_
              refine gf_X8_210 C h (hM 30 (by decide)) rfl dX8_make_245 ?_
              refine x_topi e45 ?_
              refine lv_iconst (v := nI 1) hx hb dX8_make_248 (by decide) ?_
              refine x_addN hx hb dX8_make_249 ?_
              refine pf_X8_210 C h (hM 30 (by decide)) rfl dX8_make_250 (fun H locs u47 eu47 h => ?_)
              have e49 : gi u47 24 30 = nI 0 := by rw [eu47, gi_si, if_neg (by omega)]; exact e46
              have e50 : gi u47 28 30 = nI (b + 1) := by rw [eu47, gi_si, if_pos ⟨rfl, rfl⟩]
              refine lv_aload_n hx hb dX8_make_253 rfl (lv_at hl 0 rfl) ?_
              refine gf_X8_210 C h (hM 30 (by decide)) rfl dX8_make_254 ?_
              refine x_topi e50 ?_
              refine lv_iconst (v := nI 1) hx hb dX8_make_257 (by decide) ?_
              refine lv_isub hx hb dX8_make_258 ?_
              exact x_iret C hr hlocks h (Or.inr ⟨by simp only [kbMake, if_true, if_false, Bool.not_true, Bool.not_false, Bool.and_true, Bool.true_and, Bool.and_false, Bool.false_and, Bool.or_true, Bool.true_or, Bool.or_false, Bool.false_or, Bool.false_eq_true, eq_self, decide_true, decide_false, c8, c19, c28], j, by omega, ej, pk_sub (by omega), by rw [← epl, eu47, eu43, eu40, eu38, hv]; rfl⟩) dX8_make_259
            · refine lv_bipush (v := nI 6) hx hb dX8_make_126 (by decide) ?_
              refine lv_aload_n hx hb dX8_make_128 rfl (lv_at hl 0 rfl) ?_
              refine gf_X8_210 C h (hM 30 (by decide)) rfl dX8_make_129 ?_
              refine x_topi f28 ?_
              refine x_mulN hx hb dX8_make_132 ?_
              refine lv_iload_n hx hb dX8_make_133 rfl (lv_at hl 3 rfl) ?_
              refine x_addN hx hb dX8_make_134 ?_
              refine lv_istore (lv' := [(4, .int (nI ((6 * b) + k))), (0, .ref (ad 30)), (1, .int c9), (2, .int (nI pl)), (3, .int (nI k))]) hx hb dX8_make_135 hl (by decide) rfl (fun ls hl => ?_)
              refine lv_aload_n hx hb dX8_make_137 rfl (lv_at hl 1 rfl) ?_
              refine gf_X8_80 C h (hM 30 (by decide)) rfl (k2 := 64) rfl dX8_make_138 ?_
              refine lv_iload hx hb dX8_make_141 (lv_at hl 0 rfl) ?_
              refine lv_aload_n hx hb dX8_make_143 rfl (lv_at hl 1 rfl) ?_
              refine gf_X8_56 C h (hM 30 (by decide)) rfl (k2 := 55) rfl dX8_make_144 ?_
              refine lv_iload_n hx hb dX8_make_147 rfl (lv_at hl 4 rfl) ?_
              refine x_ald C h (hM 55 (by decide)) (n := 6) rfl k (by omega) (by decide) rfl dX8_make_148 ?_
              rw [f55]
              refine x_ast C h (hM 64 (by decide)) (n := 180) rfl ((6 * b) + k) (by omega) (by decide) rfl dX8_make_149 (fun H locs u51 eu51 h => ?_)
              rw [f64] at eu51
              have e52 : gi u51 24 30 = nI n := by rw [eu51]; exact f24
              have e53 : gi u51 28 30 = nI b := by rw [eu51]; exact f28
              have e54 : gi u51 16 30 = td := by rw [eu51]; exact f16
              have e55 : gi u51 17 30 = nI nt := by rw [eu51]; exact f17
              have e56 : ga u51 55 = (ga st 55) := by rw [eu51, ga_sa, if_neg (by omega)]; exact f55
              have e57 : ga u51 56 = (ga st 56) := by rw [eu51, ga_sa, if_neg (by omega)]; exact f56
              have e58 : ga u51 57 = (ga st 57) := by rw [eu51, ga_sa, if_neg (by omega)]; exact f57
              have e60 : ga u51 65 = (fcp (ga st 65) (6 * b) (ga st 56) k) := by rw [eu51, ga_sa, if_neg (by omega)]; exact f65
              have e61 : ga u51 66 = (fcp (ga st 66) (6 * b) (ga st 57) k) := by rw [eu51, ga_sa, if_neg (by omega)]; exact f66
              have e62 : ga u51 67 = (fcp (ga st 67) (6 * b) (fun i => oI (mkT st nt pl td i)) k) := by rw [eu51, ga_sa, if_neg (by omega)]; exact f67
              have e63 : ga u51 70 = (fup (ga st 70) (fun i => mrS st (mkT st nt pl td i)) k) := by rw [eu51, ga_sa, if_neg (by omega)]; exact f70
              have e64 : ga u51 64 = (upd (fcp (ga st 64) (6 * b) (ga st 55) k) ((6 * b) + k) ((ga st 55) k)) := by rw [eu51, ga_self]
              refine lv_aload_n hx hb dX8_make_150 rfl (lv_at hl 1 rfl) ?_
              refine gf_X8_83 C h (hM 30 (by decide)) rfl (k2 := 65) rfl dX8_make_151 ?_
              refine lv_iload hx hb dX8_make_154 (lv_at hl 0 rfl) ?_
              refine lv_aload_n hx hb dX8_make_156 rfl (lv_at hl 1 rfl) ?_
              refine gf_X8_59 C h (hM 30 (by decide)) rfl (k2 := 56) rfl dX8_make_157 ?_
              refine lv_iload_n hx hb dX8_make_160 rfl (lv_at hl 4 rfl) ?_
              refine x_ald C h (hM 56 (by decide)) (n := 6) rfl k (by omega) (by decide) rfl dX8_make_161 ?_
              rw [e57]
              refine x_ast C h (hM 65 (by decide)) (n := 180) rfl ((6 * b) + k) (by omega) (by decide) rfl dX8_make_162 (fun H locs u65 eu65 h => ?_)
              rw [e60] at eu65
              have e66 : gi u65 24 30 = nI n := by rw [eu65]; exact e52
              have e67 : gi u65 28 30 = nI b := by rw [eu65]; exact e53
              have e68 : gi u65 16 30 = td := by rw [eu65]; exact e54
              have e69 : gi u65 17 30 = nI nt := by rw [eu65]; exact e55
              have e70 : ga u65 55 = (ga st 55) := by rw [eu65, ga_sa, if_neg (by omega)]; exact e56
              have e71 : ga u65 56 = (ga st 56) := by rw [eu65, ga_sa, if_neg (by omega)]; exact e57
              have e72 : ga u65 57 = (ga st 57) := by rw [eu65, ga_sa, if_neg (by omega)]; exact e58
              have e74 : ga u65 66 = (fcp (ga st 66) (6 * b) (ga st 57) k) := by rw [eu65, ga_sa, if_neg (by omega)]; exact e61
              have e75 : ga u65 67 = (fcp (ga st 67) (6 * b) (fun i => oI (mkT st nt pl td i)) k) := by rw [eu65, ga_sa, if_neg (by omega)]; exact e62
              have e76 : ga u65 70 = (fup (ga st 70) (fun i => mrS st (mkT st nt pl td i)) k) := by rw [eu65, ga_sa, if_neg (by omega)]; exact e63
              have e77 : ga u65 64 = (upd (fcp (ga st 64) (6 * b) (ga st 55) k) ((6 * b) + k) ((ga st 55) k)) := by rw [eu65, ga_sa, if_neg (by omega)]; exact e64
              have e78 : ga u65 65 = (upd (fcp (ga st 65) (6 * b) (ga st 56) k) ((6 * b) + k) ((ga st 56) k)) := by rw [eu65, ga_self]
              refine lv_aload_n hx hb dX8_make_163 rfl (lv_at hl 1 rfl) ?_
              refine gf_X8_86 C h (hM 30 (by decide)) rfl (k2 := 66) rfl dX8_make_164 ?_
              refine lv_iload hx hb dX8_make_167 (lv_at hl 0 rfl) ?_
              refine lv_aload_n hx hb dX8_make_169 rfl (lv_at hl 1 rfl) ?_
              refine gf_X8_62 C h (hM 30 (by decide)) rfl (k2 := 57) rfl dX8_make_170 ?_
              refine lv_iload_n hx hb dX8_make_173 rfl (lv_at hl 4 rfl) ?_
              refine x_ald C h (hM 57 (by decide)) (n := 6) rfl k (by omega) (by decide) rfl dX8_make_174 ?_
              rw [e72]
              refine x_ast C h (hM 66 (by decide)) (n := 180) rfl ((6 * b) + k) (by omega) (by decide) rfl dX8_make_175 (fun H locs u79 eu79 h => ?_)
              rw [e74] at eu79
              have e80 : gi u79 24 30 = nI n := by rw [eu79]; exact e66
              have e81 : gi u79 28 30 = nI b := by rw [eu79]; exact e67
              have e82 : gi u79 16 30 = td := by rw [eu79]; exact e68
              have e83 : gi u79 17 30 = nI nt := by rw [eu79]; exact e69
              have e84 : ga u79 55 = (ga st 55) := by rw [eu79, ga_sa, if_neg (by omega)]; exact e70
              have e85 : ga u79 56 = (ga st 56) := by rw [eu79, ga_sa, if_neg (by omega)]; exact e71
              have e86 : ga u79 57 = (ga st 57) := by rw [eu79, ga_sa, if_neg (by omega)]; exact e72
              have e88 : ga u79 67 = (fcp (ga st 67) (6 * b) (fun i => oI (mkT st nt pl td i)) k) := by rw [eu79, ga_sa, if_neg (by omega)]; exact e75
              have e89 : ga u79 70 = (fup (ga st 70) (fun i => mrS st (mkT st nt pl td i)) k) := by rw [eu79, ga_sa, if_neg (by omega)]; exact e76
              have e90 : ga u79 64 = (upd (fcp (ga st 64) (6 * b) (ga st 55) k) ((6 * b) + k) ((ga st 55) k)) := by rw [eu79, ga_sa, if_neg (by omega)]; exact e77
              have e91 : ga u79 65 = (upd (fcp (ga st 65) (6 * b) (ga st 56) k) ((6 * b) + k) ((ga st 56) k)) := by rw [eu79, ga_sa, if_neg (by omega)]; exact e78
              have e92 : ga u79 66 = (upd (fcp (ga st 66) (6 * b) (ga st 57) k) ((6 * b) + k) ((ga st 57) k)) := by rw [eu79, ga_self]
              refine lv_aload_n hx hb dX8_make_176 rfl (lv_at hl 1 rfl) ?_
              refine gf_X8_89 C h (hM 30 (by decide)) rfl (k2 := 67) rfl dX8_make_177 ?_
              refine lv_iload hx hb dX8_make_180 (lv_at hl 0 rfl) ?_
              refine lv_aload_n hx hb dX8_make_182 rfl (lv_at hl 1 rfl) ?_
              refine lv_iload_n hx hb dX8_make_183 rfl (lv_at hl 3 rfl) ?_
              refine lv_aload_n hx hb dX8_make_184 rfl (lv_at hl 1 rfl) ?_
              refine gf_X8_56 C h (hM 30 (by decide)) rfl (k2 := 55) rfl dX8_make_185 ?_
              refine lv_iload_n hx hb dX8_make_188 rfl (lv_at hl 4 rfl) ?_
              refine x_ald C h (hM 55 (by decide)) (n := 6) rfl k (by omega) (by decide) rfl dX8_make_189 ?_
              rw [e84]
              refine lv_aload_n hx hb dX8_make_190 rfl (lv_at hl 1 rfl) ?_
              refine gf_X8_187 C h (hM 30 (by decide)) rfl dX8_make_191 ?_
              refine x_topi e82 ?_
              refine cl_X8_196 C h (hM 30 (by decide)) rfl (c_X8_tellingOf l D cy ad Ls u79 hM nt hnt60 e83 (nI pl) ((ga st 55) k) td) (x_room (by omega)) ⟨Nat.zero_le _, Nat.zero_le _⟩ hl.1 (Nat.le_of_ble_eq_true rfl) dX8_make_194 (fun r94 u93 H locs hp h => ?_)
              obtain ⟨er94, eu93⟩ := hp; rw [eu93] at h; clear eu93 u93; refine x_topi er94 ?_; clear er94 r94
              refine x_topi (y := oI (mkT st nt pl td k)) (by rw [eu79, eu65, eu51, hv]; rfl) ?_
              refine x_ast C h (hM 67 (by decide)) (n := 180) rfl ((6 * b) + k) (by omega) (by decide) rfl dX8_make_197 (fun H locs u95 eu95 h => ?_)
              rw [e88] at eu95
              have e96 : gi u95 24 30 = nI n := by rw [eu95]; exact e80
              have e97 : gi u95 28 30 = nI b := by rw [eu95]; exact e81
              have e98 : gi u95 16 30 = td := by rw [eu95]; exact e82
              have e99 : gi u95 17 30 = nI nt := by rw [eu95]; exact e83
              have e100 : ga u95 55 = (ga st 55) := by rw [eu95, ga_sa, if_neg (by omega)]; exact e84
              have e101 : ga u95 56 = (ga st 56) := by rw [eu95, ga_sa, if_neg (by omega)]; exact e85
              have e102 : ga u95 57 = (ga st 57) := by rw [eu95, ga_sa, if_neg (by omega)]; exact e86
              have e104 : ga u95 70 = (fup (ga st 70) (fun i => mrS st (mkT st nt pl td i)) k) := by rw [eu95, ga_sa, if_neg (by omega)]; exact e89
              have e105 : ga u95 64 = (upd (fcp (ga st 64) (6 * b) (ga st 55) k) ((6 * b) + k) ((ga st 55) k)) := by rw [eu95, ga_sa, if_neg (by omega)]; exact e90
              have e106 : ga u95 65 = (upd (fcp (ga st 65) (6 * b) (ga st 56) k) ((6 * b) + k) ((ga st 56) k)) := by rw [eu95, ga_sa, if_neg (by omega)]; exact e91
              have e107 : ga u95 66 = (upd (fcp (ga st 66) (6 * b) (ga st 57) k) ((6 * b) + k) ((ga st 57) k)) := by rw [eu95, ga_sa, if_neg (by omega)]; exact e92
              have e108 : ga u95 67 = (upd (fcp (ga st 67) (6 * b) (fun i => oI (mkT st nt pl td i)) k) ((6 * b) + k) (oI (mkT st nt pl td k))) := by rw [eu95, ga_self]
              refine lv_aload_n hx hb dX8_make_198 rfl (lv_at hl 1 rfl) ?_
              refine gf_X8_98 C h (hM 30 (by decide)) rfl (k2 := 70) rfl dX8_make_199 ?_
              refine lv_iload_n hx hb dX8_make_202 rfl (lv_at hl 4 rfl) ?_
              refine lv_aload_n hx hb dX8_make_203 rfl (lv_at hl 1 rfl) ?_
              refine lv_aload_n hx hb dX8_make_204 rfl (lv_at hl 1 rfl) ?_
              refine gf_X8_89 C h (hM 30 (by decide)) rfl (k2 := 67) rfl dX8_make_205 ?_
              refine lv_iload hx hb dX8_make_208 (lv_at hl 0 rfl) ?_
              refine x_ald C h (hM 67 (by decide)) (n := 180) rfl (6 * b + k) (by omega) (by decide) rfl dX8_make_210 ?_
              rw [e108]
              refine x_topi (y := oI (mkT st nt pl td k)) (if_pos rfl) ?_
              refine cl_X8_213 C h (hM 30 (by decide)) rfl (c_X8_rateOf l D cy ad Ls u95 hM (mkT st nt pl td k) (fun i hi => Nat.lt_of_lt_of_le (mtO_lt _ _ _ _ _ _ _ _ hi) hnt60)) (x_room (by omega)) ⟨Nat.zero_le _, Nat.zero_le _⟩ hl.1 (Nat.le_of_ble_eq_true rfl) dX8_make_211 (fun r110 u109 H locs hp h => ?_)
              obtain ⟨er110, eu109⟩ := hp; rw [eu109] at h; clear eu109 u109; refine x_topi er110 ?_; clear er110 r110
              refine x_topi (y := mrS st (mkT st nt pl td k)) (by rw [eu95, eu79, eu65, eu51, hv]; rfl) ?_
              refine x_ast C h (hM 70 (by decide)) (n := 6) rfl k (by omega) (by decide) rfl dX8_make_214 (fun H locs u111 eu111 h => ?_)
              rw [e104] at eu111
              have e112 : gi u111 24 30 = nI n := by rw [eu111]; exact e96
              have e113 : gi u111 28 30 = nI b := by rw [eu111]; exact e97
              have e114 : gi u111 16 30 = td := by rw [eu111]; exact e98
              have e115 : gi u111 17 30 = nI nt := by rw [eu111]; exact e99
              have e116 : ga u111 55 = (ga st 55) := by rw [eu111, ga_sa, if_neg (by omega)]; exact e100
              have e117 : ga u111 56 = (ga st 56) := by rw [eu111, ga_sa, if_neg (by omega)]; exact e101
              have e118 : ga u111 57 = (ga st 57) := by rw [eu111, ga_sa, if_neg (by omega)]; exact e102
              have e120 : ga u111 64 = (upd (fcp (ga st 64) (6 * b) (ga st 55) k) ((6 * b) + k) ((ga st 55) k)) := by rw [eu111, ga_sa, if_neg (by omega)]; exact e105
              have e121 : ga u111 65 = (upd (fcp (ga st 65) (6 * b) (ga st 56) k) ((6 * b) + k) ((ga st 56) k)) := by rw [eu111, ga_sa, if_neg (by omega)]; exact e106
              have e122 : ga u111 66 = (upd (fcp (ga st 66) (6 * b) (ga st 57) k) ((6 * b) + k) ((ga st 57) k)) := by rw [eu111, ga_sa, if_neg (by omega)]; exact e107
              have e123 : ga u111 67 = (upd (fcp (ga st 67) (6 * b) (fun i => oI (mkT st nt pl td i)) k) ((6 * b) + k) (oI (mkT st nt pl td k))) := by rw [eu111, ga_sa, if_neg (by omega)]; exact e108
              have e124 : ga u111 70 = (upd (fup (ga st 70) (fun i => mrS st (mkT st nt pl td i)) k) k (mrS st (mkT st nt pl td k))) := by rw [eu111, ga_self]
              refine lv_iinc (v := nI (k + 1)) (lv' := [(3, .int (nI (k + 1))), (4, .int (nI ((6 * b) + k))), (0, .ref (ad 30)), (1, .int c9), (2, .int (nI pl))]) hx hb dX8_make_215 hl (k := 4) rfl (nI_add _ _) (by decide) rfl (fun ls hl => ?_)
              refine lv_goto (tgt := 118) hx hb dX8_make_218 (by decide) ?_
              exact ih118 u111 (k + 1) (by rw [eu111, eu95, eu79, eu65, eu51, hv]; exact sa5_s ..) (by omega) (by omega) H locs ls h (lv_sub hl [2, 3, 4, 0] rfl)
        exact L118 (n + 1) u33 0 (by rw [eu33, eu28, eu23, eu18, eu13, eu8]; exact (sa5_id _).symm) (by omega) (by omega) H locs ls h (lv_sub hl [2, 3, 1, 0] rfl)
      · refine lv_iconst (v := nI 2) hx hb dX8_make_31 (by decide) ?_
        refine lv_goto (tgt := 36) hx hb dX8_make_32 (by decide) ?_
        refine pf_X8_110 C h (hM 30 (by decide)) rfl dX8_make_36 (fun H locs u125 eu125 h => ?_)
        have e126 : gi u125 28 30 = nI b := by rw [eu125, gi_si, if_neg (by omega)]; exact hn28
        have e127 : gi u125 24 30 = nI n := by rw [eu125, gi_si, if_neg (by omega)]; exact hn24
        have e128 : gi u125 16 30 = td := by rw [eu125, gi_si, if_neg (by omega)]; exact htd
        have e129 : gi u125 0 30 = nI 2 := by rw [eu125, gi_si, if_pos ⟨rfl, rfl⟩]
        refine lv_aload_n hx hb dX8_make_39 rfl (lv_at hl 0 rfl) ?_
        refine gf_X8_110 C h (hM 30 (by decide)) rfl dX8_make_40 ?_
        refine x_topi e129 ?_
        refine x_ifN_le (tgt := 48) hx hb dX8_make_43 (by decide) (by decide) (fun z9 => absurd z9 (by decide)) (fun _ => ?_)
        refine lv_iconst (v := nI 0) hx hb dX8_make_46 (by decide) ?_
        exact x_iret C hr hlocks h (Or.inl ⟨by rw [show kbMake b n c9 = 2 from by simp only [kbMake, if_true, if_false, Bool.not_true, Bool.not_false, Bool.and_true, Bool.true_and, Bool.and_false, Bool.false_and, Bool.or_true, Bool.true_or, Bool.or_false, Bool.false_or, Bool.false_eq_true, eq_self, decide_true, decide_false, c8, c19, c28]]; decide, rfl, by rw [eu125, show kbMake b n c9 = 2 from by simp only [kbMake, if_true, if_false, Bool.not_true, Bool.not_false, Bool.and_true, Bool.true_and, Bool.and_false, Bool.false_and, Bool.or_true, Bool.true_or, Bool.or_false, Bool.false_or, Bool.false_eq_true, eq_self, decide_true, decide_false, c8, c19, c28]]⟩) dX8_make_47
  · refine lv_iconst (v := nI 1) hx hb dX8_make_11 (by decide) ?_
    refine lv_goto (tgt := 36) hx hb dX8_make_12 (by decide) ?_
    refine pf_X8_110 C h (hM 30 (by decide)) rfl dX8_make_36 (fun H locs u130 eu130 h => ?_)
    have e131 : gi u130 28 30 = nI b := by rw [eu130, gi_si, if_neg (by omega)]; exact hn28
    have e132 : gi u130 24 30 = nI n := by rw [eu130, gi_si, if_neg (by omega)]; exact hn24
    have e133 : gi u130 16 30 = td := by rw [eu130, gi_si, if_neg (by omega)]; exact htd
    have e134 : gi u130 0 30 = nI 1 := by rw [eu130, gi_si, if_pos ⟨rfl, rfl⟩]
    refine lv_aload_n hx hb dX8_make_39 rfl (lv_at hl 0 rfl) ?_
    refine gf_X8_110 C h (hM 30 (by decide)) rfl dX8_make_40 ?_
    refine x_topi e134 ?_
    refine x_ifN_le (tgt := 48) hx hb dX8_make_43 (by decide) (by decide) (fun z9 => absurd z9 (by decide)) (fun _ => ?_)
    refine lv_iconst (v := nI 0) hx hb dX8_make_46 (by decide) ?_
    exact x_iret C hr hlocks h (Or.inl ⟨by rw [show kbMake b n c9 = 1 from by simp only [kbMake, if_true, if_false, Bool.not_true, Bool.not_false, Bool.and_true, Bool.true_and, Bool.and_false, Bool.false_and, Bool.or_true, Bool.true_or, Bool.or_false, Bool.false_or, Bool.false_eq_true, eq_self, decide_true, decide_false, c8]]; decide, rfl, by rw [eu130, show kbMake b n c9 = 1 from by simp only [kbMake, if_true, if_false, Bool.not_true, Bool.not_false, Bool.and_true, Bool.true_and, Bool.and_false, Bool.false_and, Bool.or_true, Bool.true_or, Bool.or_false, Bool.false_or, Bool.false_eq_true, eq_self, decide_true, decide_false, c8]]⟩) dX8_make_47
