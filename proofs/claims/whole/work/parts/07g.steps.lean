/-! ===== the reference: small steps of reading and writing ===== -/
/-- the sign at a place of the page, none behind its end -/
def msgF (f : Nat → Int32) (np p : Nat) : Int32 := if p < np then f p else -1
def mwS (st : XS) (x : Int32 × Int32) : XS := si (si st 49 30 x.2) 47 30 x.1
/-- is one of the first k a loop -/
def ilF (lp : Nat → Bool) : Nat → Bool
  | 0 => false
  | k + 1 => ilF lp k || lp k

set_option maxHeartbeats 4000000 in
set_option maxRecDepth 100000 in
theorem c_X8_sign (l : Launch) (D : va_G) (cy : Nat → ClassId) (ad : Nat → Nat) (Ls : List Nat) (st : XS) (hM : ∀ k, k ∈ LsM → k ∈ Ls) (np k : Nat) (hnp160 : np ≤ 160) (hk31 : k < 100000) (hnp : gi st 1 30 = nI np) : xMi l yX8_sign cX8_sign 2 (some .int) 0 D cy ad Ls st [.ref (ad 30), .int (nI k)] (fun r u => r = msgF (ga st 32) np k ∧ u = st) := by
  intro sz
  refine x_of sz (by decide +kernel) (Nat.le_of_ble_eq_true rfl) ?_
  intro p e s m args below meth c ls hx hb hr hlocks C hsz h hl
  have hl : lv_has ls 2 [(0, .ref (ad 30)), (1, .int (nI k))] := hl
  obtain ⟨H, eH⟩ : ∃ z, z = s.heap := ⟨_, rfl⟩
  obtain ⟨locs, eL⟩ : ∃ z : List Loc, z = [] := ⟨_, rfl⟩
  rw [← eH, ← eL] at h
  rw [← eH, ← eL]
  clear eH eL
  refine lv_iload_n hx hb dX8_sign_0 rfl (lv_at hl 1 rfl) ?_
  refine lv_aload_n hx hb dX8_sign_1 rfl (lv_at hl 0 rfl) ?_
  refine gf_X8_124 C h (hM 30 (by decide)) rfl dX8_sign_2 ?_
  refine x_topi hnp ?_
  refine x_icmpN_ge (tgt := 17) hx hb dX8_sign_5 (by decide) (by omega) (by omega) (fun c5 => ?_) (fun c5 => ?_)
  · refine lv_iconst (v := (-1)) hx hb dX8_sign_17 (by decide) ?_
    exact x_iret C hr hlocks h ⟨by rw [msgF, if_neg (Nat.not_lt.mpr c5)], rfl⟩ dX8_sign_18
  · refine lv_aload_n hx hb dX8_sign_8 rfl (lv_at hl 0 rfl) ?_
    refine gf_X8_7 C h (hM 30 (by decide)) rfl (k2 := 32) rfl dX8_sign_9 ?_
    refine lv_iload_n hx hb dX8_sign_12 rfl (lv_at hl 1 rfl) ?_
    refine x_ald C h (hM 32 (by decide)) (n := 160) rfl k (by omega) (by decide) rfl dX8_sign_13 ?_
    refine lv_goto (tgt := 18) hx hb dX8_sign_14 (by decide) ?_
    exact x_iret C hr hlocks h ⟨by rw [msgF, if_pos c5], rfl⟩ dX8_sign_18

set_option maxHeartbeats 4000000 in
set_option maxRecDepth 100000 in
theorem c_X8_expects (l : Launch) (D : va_G) (cy : Nat → ClassId) (ad : Nat → Nat) (Ls : List Nat) (st : XS) (hM : ∀ k, k ∈ LsM → k ∈ Ls) (fa at9 : Int32) (hfa : gi st 10 30 = fa) (hat : gi st 9 30 = at9) (is : Bool) : xMv l yX8_expects cX8_expects 2 0 D cy ad Ls st [.ref (ad 30), .int (bi is)] (fun u => u = if fa = -1 ∧ is = false then si st 10 30 at9 else st) := by
  intro sz
  refine x_of sz (by decide +kernel) (Nat.le_of_ble_eq_true rfl) ?_
  intro p e s m args below meth c ls hx hb hr hlocks C hsz h hl
  have hl : lv_has ls 2 [(0, .ref (ad 30)), (1, .int (bi is))] := hl
  obtain ⟨H, eH⟩ : ∃ z, z = s.heap := ⟨_, rfl⟩
  obtain ⟨locs, eL⟩ : ∃ z : List Loc, z = [] := ⟨_, rfl⟩
  rw [← eH, ← eL] at h
  rw [← eH, ← eL]
  clear eH eL
  refine lv_aload_n hx hb dX8_expects_0 rfl (lv_at hl 0 rfl) ?_
  refine gf_X8_148 C h (hM 30 (by decide)) rfl dX8_expects_1 ?_
  refine x_topi hfa ?_
  refine lv_iconst (v := (-1)) hx hb dX8_expects_4 (by decide) ?_
  refine lv_icmp_ne (tgt := 20) hx hb dX8_expects_5 (by decide) (fun c5 => ?_) (fun c5 => ?_)
  · exact x_vret C hr hlocks h (by rw [if_neg (fun q => c5 q.1)]) dX8_expects_20
  · refine lv_iload_n hx hb dX8_expects_8 rfl (lv_at hl 1 rfl) ?_
    refine x_ifb_ne (tgt := 20) hx hb dX8_expects_9 (by decide) (fun c9 => ?_) (fun c9 => ?_)
    · exact x_vret C hr hlocks h (by rw [if_neg (fun q => by rw [c9] at q; exact absurd q.2 (by decide))]) dX8_expects_20
    · refine lv_aload_n hx hb dX8_expects_12 rfl (lv_at hl 0 rfl) ?_
      refine lv_aload_n hx hb dX8_expects_13 rfl (lv_at hl 0 rfl) ?_
      refine gf_X8_134 C h (hM 30 (by decide)) rfl dX8_expects_14 ?_
      refine x_topi hat ?_
      refine pf_X8_148 C h (hM 30 (by decide)) rfl dX8_expects_17 (fun H locs u1 eu1 h => ?_)
      have e3 : gi u1 9 30 = at9 := by rw [eu1, gi_si, if_neg (by omega)]; exact hat
      have e4 : gi u1 10 30 = at9 := by rw [eu1, gi_si, if_pos ⟨rfl, rfl⟩]
      exact x_vret C hr hlocks h (by rw [if_pos ⟨c5, c9⟩]; exact eu1) dX8_expects_20

theorem mwS_1 (st : XS) (x : Int32 × Int32) : gi (mwS st x) 47 30 = x.1 := by unfold mwS; rw [gi_si, if_pos ⟨rfl, rfl⟩]
theorem mwS_2 (st : XS) (x : Int32 × Int32) : gi (mwS st x) 49 30 = x.2 := by unfold mwS; rw [gi_si, if_neg (by decide), gi_si, if_pos ⟨rfl, rfl⟩]
theorem mwS_o (st : XS) (x : Int32 × Int32) {f k : Nat} (h : ¬ (f = 47 ∧ k = 30)) (h2 : ¬ (f = 49 ∧ k = 30)) : gi (mwS st x) f k = gi st f k := by unfold mwS; rw [gi_si, if_neg h, gi_si, if_neg h2]
theorem mwS_s (st : XS) (x : Int32 × Int32) (a b : Int32) : si (si (mwS st x) 49 30 a) 47 30 b = mwS st (b, a) := by
  unfold mwS
  refine XS_ext (fun f k => ?_) (fun _ _ => rfl) (fun _ _ => rfl) (fun _ => rfl) (fun _ => rfl)
  simp only [gi_si]
  by_cases h1 : f = 47 ∧ k = 30
  · rw [if_pos h1, if_pos h1]
  · by_cases h2 : f = 49 ∧ k = 30
    · rw [if_neg h1, if_pos h2, if_neg h1, if_pos h2]
    · simp only [if_neg h1, if_neg h2]
theorem mwS_id (st : XS) : mwS st (gi st 47 30, gi st 49 30) = st := by
  unfold mwS
  rw [si_id, si_id]

set_option maxHeartbeats 4000000 in
set_option maxRecDepth 100000 in
theorem c_X8_puts (l : Launch) (D : va_G) (cy : Nat → ClassId) (ad : Nat → Nat) (Ls : List Nat) (st : XS) (hM : ∀ k, k ∈ LsM → k ∈ Ls) (wn : Int32) (hwn : gi st 48 30 = wn) (x9 : Int32 × Int32) (ch : Int32) : xMv l yX8_puts cX8_puts 2 0 D cy ad Ls (mwS st x9) [.ref (ad 30), .int ch] (fun u => u = mwS st (wPut wn x9 ch)) := by
  intro sz
  refine x_of sz (by decide +kernel) (Nat.le_of_ble_eq_true rfl) ?_
  intro p e s m args below meth c ls hx hb hr hlocks C hsz h hl
  have hl : lv_has ls 2 [(0, .ref (ad 30)), (1, .int ch)] := hl
  obtain ⟨H, eH⟩ : ∃ z, z = s.heap := ⟨_, rfl⟩
  obtain ⟨locs, eL⟩ : ∃ z : List Loc, z = [] := ⟨_, rfl⟩
  rw [← eH, ← eL] at h
  rw [← eH, ← eL]
  clear eH eL
  obtain ⟨v, hv⟩ : ∃ v, v = mwS st x9 := ⟨_, rfl⟩
  rw [← hv] at h
  have f47 : gi v 47 30 = x9.1 := by rw [hv]; exact mwS_1 ..
  have f49 : gi v 49 30 = x9.2 := by rw [hv]; exact mwS_2 ..
  have f48 : gi v 48 30 = wn := by rw [hv]; exact (mwS_o _ _ (by decide) (by decide)).trans hwn
  refine lv_aload_n hx hb dX8_puts_0 rfl (lv_at hl 0 rfl) ?_
  refine lv_aload_n hx hb dX8_puts_1 rfl (lv_at hl 0 rfl) ?_
  refine gf_X8_237 C h (hM 30 (by decide)) rfl dX8_puts_2 ?_
  refine x_topi f47 ?_
  refine lv_aload_n hx hb dX8_puts_5 rfl (lv_at hl 0 rfl) ?_
  refine gf_X8_240 C h (hM 30 (by decide)) rfl dX8_puts_6 ?_
  refine x_topi f48 ?_
  refine lv_icmp_ne (tgt := 16) hx hb dX8_puts_9 (by decide) (fun c9 => ?_) (fun c9 => ?_)
  · refine lv_aload_n hx hb dX8_puts_16 rfl (lv_at hl 0 rfl) ?_
    refine gf_X8_243 C h (hM 30 (by decide)) rfl dX8_puts_17 ?_
    refine x_topi f49 ?_
    refine pf_X8_243 C h (hM 30 (by decide)) rfl dX8_puts_20 (fun H locs u1 eu1 h => ?_)
    have e2 : gi u1 47 30 = x9.1 := by rw [eu1, gi_si, if_neg (by omega)]; exact f47
    have e4 : gi u1 48 30 = wn := by rw [eu1, gi_si, if_neg (by omega)]; exact f48
    have e5 : gi u1 49 30 = x9.2 := by rw [eu1, gi_si, if_pos ⟨rfl, rfl⟩]
    refine lv_aload_n hx hb dX8_puts_23 rfl (lv_at hl 0 rfl) ?_
    refine lv_dup hx hb dX8_puts_24 rfl ?_
    refine gf_X8_237 C h (hM 30 (by decide)) rfl dX8_puts_25 ?_
    refine x_topi e2 ?_
    refine lv_iconst (v := nI 1) hx hb dX8_puts_28 (by decide) ?_
    refine lv_iadd hx hb dX8_puts_29 ?_
    refine pf_X8_237 C h (hM 30 (by decide)) rfl dX8_puts_30 (fun H locs u6 eu6 h => ?_)
    have e8 : gi u6 48 30 = wn := by rw [eu6, gi_si, if_neg (by omega)]; exact e4
    have e9 : gi u6 49 30 = x9.2 := by rw [eu6, gi_si, if_neg (by omega)]; exact e5
    have e10 : gi u6 47 30 = x9.1 + (nI 1) := by rw [eu6, gi_si, if_pos ⟨rfl, rfl⟩]
    exact x_vret C hr hlocks h (by rw [eu6, eu1, hv, mwS_s, wPut]; rw [if_neg c9]) dX8_puts_33
  · refine lv_iload_n hx hb dX8_puts_12 rfl (lv_at hl 1 rfl) ?_
    refine lv_goto (tgt := 20) hx hb dX8_puts_13 (by decide) ?_
    refine pf_X8_243 C h (hM 30 (by decide)) rfl dX8_puts_20 (fun H locs u11 eu11 h => ?_)
    have e12 : gi u11 47 30 = x9.1 := by rw [eu11, gi_si, if_neg (by omega)]; exact f47
    have e14 : gi u11 48 30 = wn := by rw [eu11, gi_si, if_neg (by omega)]; exact f48
    have e15 : gi u11 49 30 = ch := by rw [eu11, gi_si, if_pos ⟨rfl, rfl⟩]
    refine lv_aload_n hx hb dX8_puts_23 rfl (lv_at hl 0 rfl) ?_
    refine lv_dup hx hb dX8_puts_24 rfl ?_
    refine gf_X8_237 C h (hM 30 (by decide)) rfl dX8_puts_25 ?_
    refine x_topi e12 ?_
    refine lv_iconst (v := nI 1) hx hb dX8_puts_28 (by decide) ?_
    refine lv_iadd hx hb dX8_puts_29 ?_
    refine pf_X8_237 C h (hM 30 (by decide)) rfl dX8_puts_30 (fun H locs u16 eu16 h => ?_)
    have e18 : gi u16 48 30 = wn := by rw [eu16, gi_si, if_neg (by omega)]; exact e14
    have e19 : gi u16 49 30 = ch := by rw [eu16, gi_si, if_neg (by omega)]; exact e15
    have e20 : gi u16 47 30 = x9.1 + (nI 1) := by rw [eu16, gi_si, if_pos ⟨rfl, rfl⟩]
    exact x_vret C hr hlocks h (by rw [eu16, eu11, hv, mwS_s, wPut]; rw [if_pos c9]) dX8_puts_33

set_option maxHeartbeats 4000000 in
set_option maxRecDepth 100000 in
theorem c_X8_isInLoop (l : Launch) (D : va_G) (cy : Nat → ClassId) (ad : Nat → Nat) (Ls : List Nat) (st : XS) (hM : ∀ k, k ∈ LsM → k ∈ Ls) (dn : Nat) (hd5 : dn ≤ 5) (hdn : gi st 11 30 = nI dn) (lp : Nat → Bool) (hlp : ∀ k, k < dn → ga st 43 k = bi (lp k)) : xMi l yX8_isInLoop cX8_isInLoop 3 (some .boolean) 0 D cy ad Ls st [.ref (ad 30)] (fun r u => r = bi (ilF lp dn) ∧ u = st) := by
  intro sz
  refine x_of sz (by decide +kernel) (Nat.le_of_ble_eq_true rfl) ?_
  intro p e s m args below meth c ls hx hb hr hlocks C hsz h hl
  have hl : lv_has ls 3 [(0, .ref (ad 30))] := hl
  obtain ⟨H, eH⟩ : ∃ z, z = s.heap := ⟨_, rfl⟩
  obtain ⟨locs, eL⟩ : ∃ z : List Loc, z = [] := ⟨_, rfl⟩
  rw [← eH, ← eL] at h
  rw [← eH, ← eL]
  clear eH eL
  refine lv_iconst (v := nI 0) hx hb dX8_isInLoop_0 (by decide) ?_
  refine lv_istore_n (lv' := [(1, .int (nI 0)), (0, .ref (ad 30))]) hx hb dX8_isInLoop_1 rfl hl (by decide) rfl (fun ls hl => ?_)
  refine lv_iconst (v := nI 0) hx hb dX8_isInLoop_2 (by decide) ?_
  refine lv_istore_n (lv' := [(2, .int (nI 0)), (1, .int (nI 0)), (0, .ref (ad 30))]) hx hb dX8_isInLoop_3 rfl hl (by decide) rfl (fun ls hl => ?_)
  have L4 : ∀ (N4 : Nat) (k : Nat) (o : Bool) (ho : o = ilF lp k) (hk : k ≤ dn) (hN : dn - k < N4) (H : Heap) (locs : List Loc) (ls : Array Slot), xH D cy ad Ls (XA ad Ls sz) s st H locs → lv_has ls 3 [(0, .ref (ad 30)), (1, .int (bi o)), (2, .int (nI k))] → W p l e (xR 0) s m args below meth c H locs 0 0 (MQ below (va_Qi (fun r u => r = bi (ilF lp dn) ∧ u = st) (fun u => xPost D cy ad Ls (XA ad Ls sz) u) (XA ad Ls sz)) args s 0 0 (XA ad Ls sz)) (F0 m 4 ls []) := by
    intro N4
    induction N4 with
    | zero => intro k o ho hk hN; omega
    | succ N4 ih4 =>
      intro k o ho hk hN H locs ls h hl
      refine lv_iload_n hx hb dX8_isInLoop_4 rfl (lv_at hl 2 rfl) ?_
      refine lv_aload_n hx hb dX8_isInLoop_5 rfl (lv_at hl 0 rfl) ?_
      refine gf_X8_127 C h (hM 30 (by decide)) rfl dX8_isInLoop_6 ?_
      refine x_topi hdn ?_
      refine x_icmpN_ge (tgt := 37) hx hb dX8_isInLoop_9 (by decide) (by omega) (by omega) (fun c9 => ?_) (fun c9 => ?_)
      · refine lv_iload_n hx hb dX8_isInLoop_37 rfl (lv_at hl 1 rfl) ?_
        exact x_zret C hr hlocks (by first | rfl | exact bi_zn _ | decide) h ⟨by rw [show dn = k by omega, ← ho], rfl⟩ dX8_isInLoop_38
      · refine lv_iload_n hx hb dX8_isInLoop_12 rfl (lv_at hl 1 rfl) ?_
        refine x_ifb_ne (tgt := 25) hx hb dX8_isInLoop_13 (by decide) (fun c13 => ?_) (fun c13 => ?_)
        · refine lv_iconst (v := nI 1) hx hb dX8_isInLoop_25 (by decide) ?_
          refine lv_goto (tgt := 30) hx hb dX8_isInLoop_26 (by decide) ?_
          refine lv_istore_n (lv' := [(1, .int (nI 1)), (0, .ref (ad 30)), (2, .int (nI k))]) hx hb dX8_isInLoop_30 rfl hl (by decide) rfl (fun ls hl => ?_)
          refine lv_iinc (v := nI (k + 1)) (lv' := [(2, .int (nI (k + 1))), (1, .int (nI 1)), (0, .ref (ad 30))]) hx hb dX8_isInLoop_31 hl (k := 2) rfl (nI_add _ _) (by decide) rfl (fun ls hl => ?_)
          refine lv_goto (tgt := 4) hx hb dX8_isInLoop_34 (by decide) ?_
          exact ih4 (k + 1) (true) (by rw [ilF, ← ho, c13, Bool.true_or]) (by omega) (by omega) H locs ls h (lv_sub hl [2, 1, 0] rfl)
        · refine lv_aload_n hx hb dX8_isInLoop_16 rfl (lv_at hl 0 rfl) ?_
          refine gf_X8_28 C h (hM 30 (by decide)) rfl (k2 := 43) rfl dX8_isInLoop_17 ?_
          refine lv_iload_n hx hb dX8_isInLoop_20 rfl (lv_at hl 2 rfl) ?_
          refine x_zald C h (hM 43 (by decide)) rfl k (by omega) rfl dX8_isInLoop_21 ?_
          refine x_topi (y := bi (lp k)) (hlp k (by omega)) ?_
          refine x_ifb_eq (tgt := 29) hx hb dX8_isInLoop_22 (by decide) (fun c22 => ?_) (fun c22 => ?_)
          · refine lv_iconst (v := nI 0) hx hb dX8_isInLoop_29 (by decide) ?_
            refine lv_istore_n (lv' := [(1, .int (nI 0)), (0, .ref (ad 30)), (2, .int (nI k))]) hx hb dX8_isInLoop_30 rfl hl (by decide) rfl (fun ls hl => ?_)
            refine lv_iinc (v := nI (k + 1)) (lv' := [(2, .int (nI (k + 1))), (1, .int (nI 0)), (0, .ref (ad 30))]) hx hb dX8_isInLoop_31 hl (k := 2) rfl (nI_add _ _) (by decide) rfl (fun ls hl => ?_)
            refine lv_goto (tgt := 4) hx hb dX8_isInLoop_34 (by decide) ?_
            exact ih4 (k + 1) (false) (by rw [ilF, ← ho, c13, c22]; rfl) (by omega) (by omega) H locs ls h (lv_sub hl [2, 1, 0] rfl)
          · refine lv_iconst (v := nI 1) hx hb dX8_isInLoop_25 (by decide) ?_
            refine lv_goto (tgt := 30) hx hb dX8_isInLoop_26 (by decide) ?_
            refine lv_istore_n (lv' := [(1, .int (nI 1)), (0, .ref (ad 30)), (2, .int (nI k))]) hx hb dX8_isInLoop_30 rfl hl (by decide) rfl (fun ls hl => ?_)
            refine lv_iinc (v := nI (k + 1)) (lv' := [(2, .int (nI (k + 1))), (1, .int (nI 1)), (0, .ref (ad 30))]) hx hb dX8_isInLoop_31 hl (k := 2) rfl (nI_add _ _) (by decide) rfl (fun ls hl => ?_)
            refine lv_goto (tgt := 4) hx hb dX8_isInLoop_34 (by decide) ?_
            exact ih4 (k + 1) (true) (by rw [ilF, ← ho, c13, c22]; rfl) (by omega) (by omega) H locs ls h (lv_sub hl [2, 1, 0] rfl)
  exact L4 (dn + 1) 0 false rfl (by omega) (by omega) H locs ls h (lv_sub hl [2, 1, 0] rfl)

theorem nm0_f {x : Int32} (h1 : ¬ x = nI 110) (h2 : ¬ x = nI 99) (h3 : ¬ x = nI 100) (h4 : ¬ x = nI 108) (h5 : ¬ x = nI 115) (h6 : ¬ x = nI 116) (h7 : ¬ x = nI 103) : nmL0.contains x = false := by
  rw [← Bool.not_eq_true]
  intro h
  have hm := List.contains_iff_mem.mp h
  simp only [nmL0, List.mem_cons, List.not_mem_nil, or_false] at hm
  rcases hm with e | e | e | e | e | e | e
  · exact h1 e
  · exact h2 e
  · exact h3 e
  · exact h4 e
  · exact h5 e
  · exact h6 e
  · exact h7 e
theorem nm1_f {x : Int32} (h1 : ¬ x = nI 105) (h2 : ¬ x = nI 107) (h3 : ¬ x = nI 113) (h4 : ¬ x = nI 112) (h5 : ¬ x = nI 97) (h6 : ¬ x = nI 120) : nmL1.contains x = false := by
  rw [← Bool.not_eq_true]
  intro h
  have hm := List.contains_iff_mem.mp h
  simp only [nmL1, List.mem_cons, List.not_mem_nil, or_false] at hm
  rcases hm with e | e | e | e | e | e
  · exact h1 e
  · exact h2 e
  · exact h3 e
  · exact h4 e
  · exact h5 e
  · exact h6 e

set_option maxHeartbeats 4000000 in
set_option maxRecDepth 100000 in
theorem c_X8_isName (l : Launch) (D : va_G) (cy : Nat → ClassId) (ad : Nat → Nat) (Ls : List Nat) (st : XS) (hM : ∀ k, k ∈ LsM → k ∈ Ls) (dn : Nat) (hd5 : dn ≤ 5) (hdn : gi st 11 30 = nI dn) (lp : Nat → Bool) (hlp : ∀ k, k < dn → ga st 43 k = bi (lp k)) (x : Int32) : xMi l yX8_isName cX8_isName 3 (some .boolean) 1 D cy ad Ls st [.ref (ad 30), .int x] (fun r u => r = bi (nmB x (ilF lp dn)) ∧ u = st) := by
  intro sz
  refine x_of sz (by decide +kernel) (Nat.le_of_ble_eq_true rfl) ?_
  intro p e s m args below meth c ls hx hb hr hlocks C hsz h hl
  have hl : lv_has ls 3 [(0, .ref (ad 30)), (1, .int x)] := hl
  obtain ⟨H, eH⟩ : ∃ z, z = s.heap := ⟨_, rfl⟩
  obtain ⟨locs, eL⟩ : ∃ z : List Loc, z = [] := ⟨_, rfl⟩
  rw [← eH, ← eL] at h
  rw [← eH, ← eL]
  clear eH eL
  refine lv_iload_n hx hb dX8_isName_0 rfl (lv_at hl 1 rfl) ?_
  refine lv_bipush (v := nI 110) hx hb dX8_isName_1 (by decide) ?_
  refine lv_icmp_eq (tgt := 42) hx hb dX8_isName_3 (by decide) (fun c3 => ?_) (fun c3 => ?_)
  · refine lv_iconst (v := nI 1) hx hb dX8_isName_42 (by decide) ?_
    refine lv_goto (tgt := 47) hx hb dX8_isName_43 (by decide) ?_
    refine lv_istore_n (lv' := [(2, .int (nI 1)), (0, .ref (ad 30)), (1, .int x)]) hx hb dX8_isName_47 rfl hl (by decide) rfl (fun ls hl => ?_)
    refine lv_iload_n hx hb dX8_isName_48 rfl (lv_at hl 0 rfl) ?_
    refine x_ifN_ne (tgt := 95) hx hb dX8_isName_49 (by decide) (by decide) (fun _ => ?_) (fun z9 => absurd z9 (by decide))
    refine lv_iconst (v := nI 1) hx hb dX8_isName_95 (by decide) ?_
    refine lv_goto (tgt := 100) hx hb dX8_isName_96 (by decide) ?_
    exact x_zret C hr hlocks (by first | rfl | exact bi_zn _ | decide) h ⟨by rw [nmB, show nmL0.contains x = true by rw [c3]; rfl]; rfl, rfl⟩ dX8_isName_100
  · refine lv_iload_n hx hb dX8_isName_6 rfl (lv_at hl 1 rfl) ?_
    refine lv_bipush (v := nI 99) hx hb dX8_isName_7 (by decide) ?_
    refine lv_icmp_eq (tgt := 42) hx hb dX8_isName_9 (by decide) (fun c9 => ?_) (fun c9 => ?_)
    · refine lv_iconst (v := nI 1) hx hb dX8_isName_42 (by decide) ?_
      refine lv_goto (tgt := 47) hx hb dX8_isName_43 (by decide) ?_
      refine lv_istore_n (lv' := [(2, .int (nI 1)), (0, .ref (ad 30)), (1, .int x)]) hx hb dX8_isName_47 rfl hl (by decide) rfl (fun ls hl => ?_)
      refine lv_iload_n hx hb dX8_isName_48 rfl (lv_at hl 0 rfl) ?_
      refine x_ifN_ne (tgt := 95) hx hb dX8_isName_49 (by decide) (by decide) (fun _ => ?_) (fun z9 => absurd z9 (by decide))
      refine lv_iconst (v := nI 1) hx hb dX8_isName_95 (by decide) ?_
      refine lv_goto (tgt := 100) hx hb dX8_isName_96 (by decide) ?_
      exact x_zret C hr hlocks (by first | rfl | exact bi_zn _ | decide) h ⟨by rw [nmB, show nmL0.contains x = true by rw [c9]; rfl]; rfl, rfl⟩ dX8_isName_100
    · refine lv_iload_n hx hb dX8_isName_12 rfl (lv_at hl 1 rfl) ?_
      refine lv_bipush (v := nI 100) hx hb dX8_isName_13 (by decide) ?_
      refine lv_icmp_eq (tgt := 42) hx hb dX8_isName_15 (by decide) (fun c15 => ?_) (fun c15 => ?_)
      · refine lv_iconst (v := nI 1) hx hb dX8_isName_42 (by decide) ?_
        refine lv_goto (tgt := 47) hx hb dX8_isName_43 (by decide) ?_
        refine lv_istore_n (lv' := [(2, .int (nI 1)), (0, .ref (ad 30)), (1, .int x)]) hx hb dX8_isName_47 rfl hl (by decide) rfl (fun ls hl => ?_)
        refine lv_iload_n hx hb dX8_isName_48 rfl (lv_at hl 0 rfl) ?_
        refine x_ifN_ne (tgt := 95) hx hb dX8_isName_49 (by decide) (by decide) (fun _ => ?_) (fun z9 => absurd z9 (by decide))
        refine lv_iconst (v := nI 1) hx hb dX8_isName_95 (by decide) ?_
        refine lv_goto (tgt := 100) hx hb dX8_isName_96 (by decide) ?_
        exact x_zret C hr hlocks (by first | rfl | exact bi_zn _ | decide) h ⟨by rw [nmB, show nmL0.contains x = true by rw [c15]; rfl]; rfl, rfl⟩ dX8_isName_100
      · refine lv_iload_n hx hb dX8_isName_18 rfl (lv_at hl 1 rfl) ?_
        refine lv_bipush (v := nI 108) hx hb dX8_isName_19 (by decide) ?_
        refine lv_icmp_eq (tgt := 42) hx hb dX8_isName_21 (by decide) (fun c21 => ?_) (fun c21 => ?_)
        · refine lv_iconst (v := nI 1) hx hb dX8_isName_42 (by decide) ?_
          refine lv_goto (tgt := 47) hx hb dX8_isName_43 (by decide) ?_
          refine lv_istore_n (lv' := [(2, .int (nI 1)), (0, .ref (ad 30)), (1, .int x)]) hx hb dX8_isName_47 rfl hl (by decide) rfl (fun ls hl => ?_)
          refine lv_iload_n hx hb dX8_isName_48 rfl (lv_at hl 0 rfl) ?_
          refine x_ifN_ne (tgt := 95) hx hb dX8_isName_49 (by decide) (by decide) (fun _ => ?_) (fun z9 => absurd z9 (by decide))
          refine lv_iconst (v := nI 1) hx hb dX8_isName_95 (by decide) ?_
          refine lv_goto (tgt := 100) hx hb dX8_isName_96 (by decide) ?_
          exact x_zret C hr hlocks (by first | rfl | exact bi_zn _ | decide) h ⟨by rw [nmB, show nmL0.contains x = true by rw [c21]; rfl]; rfl, rfl⟩ dX8_isName_100
        · refine lv_iload_n hx hb dX8_isName_24 rfl (lv_at hl 1 rfl) ?_
          refine lv_bipush (v := nI 115) hx hb dX8_isName_25 (by decide) ?_
          refine lv_icmp_eq (tgt := 42) hx hb dX8_isName_27 (by decide) (fun c27 => ?_) (fun c27 => ?_)
          · refine lv_iconst (v := nI 1) hx hb dX8_isName_42 (by decide) ?_
            refine lv_goto (tgt := 47) hx hb dX8_isName_43 (by decide) ?_
            refine lv_istore_n (lv' := [(2, .int (nI 1)), (0, .ref (ad 30)), (1, .int x)]) hx hb dX8_isName_47 rfl hl (by decide) rfl (fun ls hl => ?_)
            refine lv_iload_n hx hb dX8_isName_48 rfl (lv_at hl 0 rfl) ?_
            refine x_ifN_ne (tgt := 95) hx hb dX8_isName_49 (by decide) (by decide) (fun _ => ?_) (fun z9 => absurd z9 (by decide))
            refine lv_iconst (v := nI 1) hx hb dX8_isName_95 (by decide) ?_
            refine lv_goto (tgt := 100) hx hb dX8_isName_96 (by decide) ?_
            exact x_zret C hr hlocks (by first | rfl | exact bi_zn _ | decide) h ⟨by rw [nmB, show nmL0.contains x = true by rw [c27]; rfl]; rfl, rfl⟩ dX8_isName_100
          · refine lv_iload_n hx hb dX8_isName_30 rfl (lv_at hl 1 rfl) ?_
            refine lv_bipush (v := nI 116) hx hb dX8_isName_31 (by decide) ?_
            refine lv_icmp_eq (tgt := 42) hx hb dX8_isName_33 (by decide) (fun c33 => ?_) (fun c33 => ?_)
            · refine lv_iconst (v := nI 1) hx hb dX8_isName_42 (by decide) ?_
              refine lv_goto (tgt := 47) hx hb dX8_isName_43 (by decide) ?_
              refine lv_istore_n (lv' := [(2, .int (nI 1)), (0, .ref (ad 30)), (1, .int x)]) hx hb dX8_isName_47 rfl hl (by decide) rfl (fun ls hl => ?_)
              refine lv_iload_n hx hb dX8_isName_48 rfl (lv_at hl 0 rfl) ?_
              refine x_ifN_ne (tgt := 95) hx hb dX8_isName_49 (by decide) (by decide) (fun _ => ?_) (fun z9 => absurd z9 (by decide))
              refine lv_iconst (v := nI 1) hx hb dX8_isName_95 (by decide) ?_
              refine lv_goto (tgt := 100) hx hb dX8_isName_96 (by decide) ?_
              exact x_zret C hr hlocks (by first | rfl | exact bi_zn _ | decide) h ⟨by rw [nmB, show nmL0.contains x = true by rw [c33]; rfl]; rfl, rfl⟩ dX8_isName_100
            · refine lv_iload_n hx hb dX8_isName_36 rfl (lv_at hl 1 rfl) ?_
              refine lv_bipush (v := nI 103) hx hb dX8_isName_37 (by decide) ?_
              refine lv_icmp_ne (tgt := 46) hx hb dX8_isName_39 (by decide) (fun c39 => ?_) (fun c39 => ?_)
              · refine lv_iconst (v := nI 0) hx hb dX8_isName_46 (by decide) ?_
                refine lv_istore_n (lv' := [(2, .int (nI 0)), (0, .ref (ad 30)), (1, .int x)]) hx hb dX8_isName_47 rfl hl (by decide) rfl (fun ls hl => ?_)
                refine lv_iload_n hx hb dX8_isName_48 rfl (lv_at hl 0 rfl) ?_
                refine x_ifN_ne (tgt := 95) hx hb dX8_isName_49 (by decide) (by decide) (fun z9 => absurd z9 (by decide)) (fun _ => ?_)
                refine lv_aload_n hx hb dX8_isName_52 rfl (lv_at hl 1 rfl) ?_
                refine cl_X8_130 C h (hM 30 (by decide)) rfl (c_X8_isInLoop l D cy ad Ls st hM dn hd5 hdn lp hlp) (x_room (by omega)) ⟨Nat.zero_le _, Nat.zero_le _⟩ hl.1 (Nat.le_of_ble_eq_true rfl) dX8_isName_53 (fun r2 u1 H locs hp h => ?_)
                obtain ⟨er2, eu1⟩ := hp; rw [eu1] at h; clear eu1 u1; refine x_topi er2 ?_; clear er2 r2
                refine x_ifb_eq (tgt := 99) hx hb dX8_isName_56 (by decide) (fun c56 => ?_) (fun c56 => ?_)
                · refine lv_iconst (v := nI 0) hx hb dX8_isName_99 (by decide) ?_
                  exact x_zret C hr hlocks (by first | rfl | exact bi_zn _ | decide) h ⟨by rw [nmB, nm0_f c3 c9 c15 c21 c27 c33 c39, c56]; rfl, rfl⟩ dX8_isName_100
                · refine lv_iload_n hx hb dX8_isName_59 rfl (lv_at hl 2 rfl) ?_
                  refine lv_bipush (v := nI 105) hx hb dX8_isName_60 (by decide) ?_
                  refine lv_icmp_eq (tgt := 95) hx hb dX8_isName_62 (by decide) (fun c62 => ?_) (fun c62 => ?_)
                  · refine lv_iconst (v := nI 1) hx hb dX8_isName_95 (by decide) ?_
                    refine lv_goto (tgt := 100) hx hb dX8_isName_96 (by decide) ?_
                    exact x_zret C hr hlocks (by first | rfl | exact bi_zn _ | decide) h ⟨by rw [nmB, nm0_f c3 c9 c15 c21 c27 c33 c39, c56, show nmL1.contains x = true by rw [c62]; rfl]; rfl, rfl⟩ dX8_isName_100
                  · refine lv_iload_n hx hb dX8_isName_65 rfl (lv_at hl 2 rfl) ?_
                    refine lv_bipush (v := nI 107) hx hb dX8_isName_66 (by decide) ?_
                    refine lv_icmp_eq (tgt := 95) hx hb dX8_isName_68 (by decide) (fun c68 => ?_) (fun c68 => ?_)
                    · refine lv_iconst (v := nI 1) hx hb dX8_isName_95 (by decide) ?_
                      refine lv_goto (tgt := 100) hx hb dX8_isName_96 (by decide) ?_
                      exact x_zret C hr hlocks (by first | rfl | exact bi_zn _ | decide) h ⟨by rw [nmB, nm0_f c3 c9 c15 c21 c27 c33 c39, c56, show nmL1.contains x = true by rw [c68]; rfl]; rfl, rfl⟩ dX8_isName_100
                    · refine lv_iload_n hx hb dX8_isName_71 rfl (lv_at hl 2 rfl) ?_
                      refine lv_bipush (v := nI 113) hx hb dX8_isName_72 (by decide) ?_
                      refine lv_icmp_eq (tgt := 95) hx hb dX8_isName_74 (by decide) (fun c74 => ?_) (fun c74 => ?_)
                      · refine lv_iconst (v := nI 1) hx hb dX8_isName_95 (by decide) ?_
                        refine lv_goto (tgt := 100) hx hb dX8_isName_96 (by decide) ?_
                        exact x_zret C hr hlocks (by first | rfl | exact bi_zn _ | decide) h ⟨by rw [nmB, nm0_f c3 c9 c15 c21 c27 c33 c39, c56, show nmL1.contains x = true by rw [c74]; rfl]; rfl, rfl⟩ dX8_isName_100
                      · refine lv_iload_n hx hb dX8_isName_77 rfl (lv_at hl 2 rfl) ?_
                        refine lv_bipush (v := nI 112) hx hb dX8_isName_78 (by decide) ?_
                        refine lv_icmp_eq (tgt := 95) hx hb dX8_isName_80 (by decide) (fun c80 => ?_) (fun c80 => ?_)
                        · refine lv_iconst (v := nI 1) hx hb dX8_isName_95 (by decide) ?_
                          refine lv_goto (tgt := 100) hx hb dX8_isName_96 (by decide) ?_
                          exact x_zret C hr hlocks (by first | rfl | exact bi_zn _ | decide) h ⟨by rw [nmB, nm0_f c3 c9 c15 c21 c27 c33 c39, c56, show nmL1.contains x = true by rw [c80]; rfl]; rfl, rfl⟩ dX8_isName_100
                        · refine lv_iload_n hx hb dX8_isName_83 rfl (lv_at hl 2 rfl) ?_
                          refine lv_bipush (v := nI 97) hx hb dX8_isName_84 (by decide) ?_
                          refine lv_icmp_eq (tgt := 95) hx hb dX8_isName_86 (by decide) (fun c86 => ?_) (fun c86 => ?_)
                          · refine lv_iconst (v := nI 1) hx hb dX8_isName_95 (by decide) ?_
                            refine lv_goto (tgt := 100) hx hb dX8_isName_96 (by decide) ?_
                            exact x_zret C hr hlocks (by first | rfl | exact bi_zn _ | decide) h ⟨by rw [nmB, nm0_f c3 c9 c15 c21 c27 c33 c39, c56, show nmL1.contains x = true by rw [c86]; rfl]; rfl, rfl⟩ dX8_isName_100
                          · refine lv_iload_n hx hb dX8_isName_89 rfl (lv_at hl 2 rfl) ?_
                            refine lv_bipush (v := nI 120) hx hb dX8_isName_90 (by decide) ?_
                            refine lv_icmp_ne (tgt := 99) hx hb dX8_isName_92 (by decide) (fun c92 => ?_) (fun c92 => ?_)
                            · refine lv_iconst (v := nI 0) hx hb dX8_isName_99 (by decide) ?_
                              exact x_zret C hr hlocks (by first | rfl | exact bi_zn _ | decide) h ⟨by rw [nmB, nm0_f c3 c9 c15 c21 c27 c33 c39, c56, nm1_f c62 c68 c74 c80 c86 c92]; rfl, rfl⟩ dX8_isName_100
                            · refine lv_iconst (v := nI 1) hx hb dX8_isName_95 (by decide) ?_
                              refine lv_goto (tgt := 100) hx hb dX8_isName_96 (by decide) ?_
                              exact x_zret C hr hlocks (by first | rfl | exact bi_zn _ | decide) h ⟨by rw [nmB, nm0_f c3 c9 c15 c21 c27 c33 c39, c56, show nmL1.contains x = true by rw [c92]; rfl]; rfl, rfl⟩ dX8_isName_100
              · refine lv_iconst (v := nI 1) hx hb dX8_isName_42 (by decide) ?_
                refine lv_goto (tgt := 47) hx hb dX8_isName_43 (by decide) ?_
                refine lv_istore_n (lv' := [(2, .int (nI 1)), (0, .ref (ad 30)), (1, .int x)]) hx hb dX8_isName_47 rfl hl (by decide) rfl (fun ls hl => ?_)
                refine lv_iload_n hx hb dX8_isName_48 rfl (lv_at hl 0 rfl) ?_
                refine x_ifN_ne (tgt := 95) hx hb dX8_isName_49 (by decide) (by decide) (fun _ => ?_) (fun z9 => absurd z9 (by decide))
                refine lv_iconst (v := nI 1) hx hb dX8_isName_95 (by decide) ?_
                refine lv_goto (tgt := 100) hx hb dX8_isName_96 (by decide) ?_
                exact x_zret C hr hlocks (by first | rfl | exact bi_zn _ | decide) h ⟨by rw [nmB, show nmL0.contains x = true by rw [c39]; rfl]; rfl, rfl⟩ dX8_isName_100
