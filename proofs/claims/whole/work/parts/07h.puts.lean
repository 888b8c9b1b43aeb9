/-! ===== the reference: putsNumber ===== -/
theorem p10_lt {t : Nat} (h : t ≤ 9) : 10 ^ t < 2 ^ 31 := Nat.lt_of_le_of_lt (Nat.pow_le_pow_right (by decide) h) (by decide)
theorem p10_pos (t : Nat) : 0 < 10 ^ t := Nat.pow_pos (by decide)
theorem p10_ne {t : Nat} (h : t ≤ 9) : ¬ nI (10 ^ t) = 0 := fun e => by
  have h1 := p10_lt h
  have h2 := p10_pos t
  have h3 : nI 0 < nI (10 ^ t) := nI_lt h2 h1
  rw [e] at h3
  exact absurd h3 (by decide)

theorem p10_next {i : Nat} (h : i ≤ 9) : (i = 0 ∧ nI (10 ^ i) / nI 10 = nI 0) ∨ ∃ i', i = i' + 1 ∧ nI (10 ^ i) / nI 10 = nI (10 ^ i') := by
  rcases i with _ | i
  · exact Or.inl ⟨rfl, by decide⟩
  · exact Or.inr ⟨i, rfl, by rw [pk_div (p10_lt h) (by decide) (by decide), Nat.pow_succ, Nat.mul_div_cancel _ (by decide)]⟩

set_option maxHeartbeats 4000000 in
set_option maxRecDepth 100000 in
theorem c_X8_putsNumber (l : Launch) (D : va_G) (cy : Nat → ClassId) (ad : Nat → Nat) (Ls : List Nat) (st : XS) (hM : ∀ k, k ∈ LsM → k ∈ Ls) (wn : Int32) (hwn : gi st 48 30 = wn) (x0 : Int32 × Int32) (q9 : Nat) (hm : q9 < 2 ^ 31) (wd : Int32) : xMv l yX8_putsNumber cX8_putsNumber 8 1 D cy ad Ls (mwS st x0) [.ref (ad 30), .int (nI q9), .int wd] (fun u => u = mwS st (wPuts wn x0 (numT q9 wd.toNatClampNeg))) := by
  intro sz
  refine x_of sz (by decide +kernel) (Nat.le_of_ble_eq_true rfl) ?_
  intro p e s m args below meth c ls hx hb hr hlocks C hsz h hl
  have hl : lv_has ls 8 [(0, .ref (ad 30)), (1, .int (nI q9)), (2, .int wd)] := hl
  have hw31 : wd.toNatClampNeg < 2 ^ 31 := nI_cl31 _
  obtain ⟨H, eH⟩ : ∃ z, z = s.heap := ⟨_, rfl⟩
  obtain ⟨locs, eL⟩ : ∃ z : List Loc, z = [] := ⟨_, rfl⟩
  rw [← eH, ← eL] at h
  rw [← eH, ← eL]
  clear eH eL
  obtain ⟨v, hv⟩ : ∃ v, v = mwS st x0 := ⟨_, rfl⟩
  rw [← hv] at h
  refine lv_iload_n hx hb dX8_putsNumber_0 rfl (lv_at hl 1 rfl) ?_
  refine x_if_ge_t (tgt := 9) hx hb dX8_putsNumber_1 (by decide) (nI_pos' (by omega)) ?_
  refine lv_iload_n hx hb dX8_putsNumber_9 rfl (lv_at hl 1 rfl) ?_
  refine lv_istore_n (lv' := [(3, .int (nI q9)), (0, .ref (ad 30)), (1, .int (nI q9)), (2, .int wd)]) hx hb dX8_putsNumber_10 rfl hl (by decide) rfl (fun ls hl => ?_)
  refine lv_iconst (v := nI 1) hx hb dX8_putsNumber_11 (by decide) ?_
  refine lv_istore (lv' := [(4, .int (nI 1)), (3, .int (nI q9)), (0, .ref (ad 30)), (1, .int (nI q9)), (2, .int wd)]) hx hb dX8_putsNumber_12 hl (by decide) rfl (fun ls hl => ?_)
  refine lv_iconst (v := nI 1) hx hb dX8_putsNumber_14 (by decide) ?_
  refine lv_istore (lv' := [(5, .int (nI 1)), (4, .int (nI 1)), (3, .int (nI q9)), (0, .ref (ad 30)), (1, .int (nI q9)), (2, .int wd)]) hx hb dX8_putsNumber_15 hl (by decide) rfl (fun ls hl => ?_)
  have L17 : ∀ (N17 : Nat) (t : Nat) (ht : dsz 9 q9 = t + dsz (9 - t) (q9 / 10 ^ t)) (ht9 : t ≤ 9) (hN : 9 - t < N17) (H : Heap) (locs : List Loc) (ls : Array Slot), xH D cy ad Ls (XA ad Ls sz) s v H locs → lv_has ls 8 [(0, .ref (ad 30)), (1, .int (nI q9)), (2, .int wd), (3, .int (nI q9)), (4, .int (nI (t + 1))), (5, .int (nI (10 ^ t)))] → W p l e (xR 1) s m args below meth c H locs 0 0 (MQ below (va_Qv (fun u => u = mwS st (wPuts wn x0 (numT q9 wd.toNatClampNeg))) (fun u => xPost D cy ad Ls (XA ad Ls sz) u) (XA ad Ls sz)) args s 0 0 (XA ad Ls sz)) (F0 m 17 ls []) := by
    intro N17
    induction N17 with
    | zero => intro t ht ht9 hN; omega
    | succ N17 ih17 =>
      intro t ht ht9 hN H locs ls h hl
      refine lv_iload_n hx hb dX8_putsNumber_17 rfl (lv_at hl 3 rfl) ?_
      refine lv_iload hx hb dX8_putsNumber_18 (lv_at hl 5 rfl) ?_
      refine lv_idiv hx hb dX8_putsNumber_20 (p10_ne ht9) ?_
      refine x_topi (y := nI (q9 / 10 ^ t)) (pk_div hm (p10_pos t) (p10_lt ht9)) ?_
      have hqt : q9 / 10 ^ t ≤ q9 := Nat.div_le_self _ _
      refine lv_bipush (v := nI 9) hx hb dX8_putsNumber_21 (by decide) ?_
      refine x_icmpN_le (tgt := 39) hx hb dX8_putsNumber_23 (by decide) (by omega) (by omega) (fun c23 => ?_) (fun c23 => ?_)
      · have hsz : dsz 9 q9 = t + 1 := by rw [ht, dsz_1 (Nat.div_eq_of_lt (Nat.lt_succ_of_le c23))]
        refine lv_iload hx hb dX8_putsNumber_39 (lv_at hl 4 rfl) ?_
        refine lv_iload_n hx hb dX8_putsNumber_41 rfl (lv_at hl 1 rfl) ?_
        refine x_if_ge_t (tgt := 49) hx hb dX8_putsNumber_42 (by decide) (nI_pos' (by omega)) ?_
        refine lv_iconst (v := nI 0) hx hb dX8_putsNumber_49 (by decide) ?_
        refine x_addN hx hb dX8_putsNumber_50 ?_
        refine lv_istore (lv' := [(6, .int (nI ((t + 1) + 0))), (0, .ref (ad 30)), (1, .int (nI q9)), (2, .int wd), (3, .int (nI q9)), (4, .int (nI (t + 1))), (5, .int (nI (10 ^ t)))]) hx hb dX8_putsNumber_51 hl (by decide) rfl (fun ls hl => ?_)
        refine lv_iload hx hb dX8_putsNumber_53 (lv_at hl 0 rfl) ?_
        refine lv_istore (lv' := [(7, .int (nI ((t + 1) + 0))), (6, .int (nI ((t + 1) + 0))), (0, .ref (ad 30)), (1, .int (nI q9)), (2, .int wd), (3, .int (nI q9)), (4, .int (nI (t + 1))), (5, .int (nI (10 ^ t)))]) hx hb dX8_putsNumber_55 hl (by decide) rfl (fun ls hl => ?_)
        have L57 : ∀ (N57 : Nat) (v8 : XS) (x9 : Int32 × Int32) (k : Nat) (hv8 : v8 = mwS st x9) (hx9 : x9 = wPuts wn x0 (List.replicate (k - (t + 1)) (nI 32))) (hk1 : t + 1 ≤ k) (hk2 : k = t + 1 ∨ k ≤ wd.toNatClampNeg) (hN : wd.toNatClampNeg + t + 2 - k < N57) (H : Heap) (locs : List Loc) (ls : Array Slot), xH D cy ad Ls (XA ad Ls sz) s v8 H locs → lv_has ls 8 [(0, .ref (ad 30)), (1, .int (nI q9)), (2, .int wd), (3, .int (nI q9)), (5, .int (nI (10 ^ t))), (7, .int (nI k))] → W p l e (xR 1) s m args below meth c H locs 0 0 (MQ below (va_Qv (fun u => u = mwS st (wPuts wn x0 (numT q9 wd.toNatClampNeg))) (fun u => xPost D cy ad Ls (XA ad Ls sz) u) (XA ad Ls sz)) args s 0 0 (XA ad Ls sz)) (F0 m 57 ls []) := by
          intro N57
          induction N57 with
          | zero => intro v8 x9 k hv8 hx9 hk1 hk2 hN; omega
          | succ N57 ih57 =>
            intro v8 x9 k hv8 hx9 hk1 hk2 hN H locs ls h hl
            refine lv_iload hx hb dX8_putsNumber_57 (lv_at hl 5 rfl) ?_
            refine lv_iload_n hx hb dX8_putsNumber_59 rfl (lv_at hl 2 rfl) ?_
            refine lv_icmp_ge (tgt := 75) hx hb dX8_putsNumber_60 (by decide) (fun c60 => ?_) (fun c60 => ?_)
            · refine lv_iload_n hx hb dX8_putsNumber_75 rfl (lv_at hl 1 rfl) ?_
              refine x_if_ge_t (tgt := 85) hx hb dX8_putsNumber_76 (by decide) (nI_pos' (by omega)) ?_
              have L85 : ∀ (N85 : Nat) (v7 : XS) (x8 : Int32 × Int32) (j : Nat) (o : Int32) (hv7 : v7 = mwS st x8) (hF : wPuts wn x0 (numT q9 wd.toNatClampNeg) = wPuts wn x8 (dgT q9 j)) (hj1 : j ≤ t + 1) (hoj : (j = 0 ∧ o = nI 0) ∨ ∃ i, j = i + 1 ∧ o = nI (10 ^ i)) (hN : j < N85) (H : Heap) (locs : List Loc) (ls : Array Slot), xH D cy ad Ls (XA ad Ls sz) s v7 H locs → lv_has ls 8 [(0, .ref (ad 30)), (3, .int (nI q9)), (5, .int o)] → W p l e (xR 1) s m args below meth c H locs 0 0 (MQ below (va_Qv (fun u => u = mwS st (wPuts wn x0 (numT q9 wd.toNatClampNeg))) (fun u => xPost D cy ad Ls (XA ad Ls sz) u) (XA ad Ls sz)) args s 0 0 (XA ad Ls sz)) (F0 m 85 ls []) := by
                intro N85
                induction N85 with
                | zero => intro v7 x8 j o hv7 hF hj1 hoj hN; omega
                | succ N85 ih85 =>
                  intro v7 x8 j o hv7 hF hj1 hoj hN H locs ls h hl
                  rcases hoj with ⟨ej, eo⟩ | ⟨i, ej, eo⟩
                  · subst ej; rw [eo] at hl; clear eo
                    refine lv_iload hx hb dX8_putsNumber_85 (lv_at hl 2 rfl) ?_
                    refine x_ifN_le (tgt := 114) hx hb dX8_putsNumber_87 (by decide) (by decide) (fun _ => ?_) (fun z9 => absurd z9 (by decide))
                    exact x_vret C hr hlocks h (by rw [hF]; exact hv7) dX8_putsNumber_114
                  · subst ej; rw [eo] at hl; clear eo
                    have hi9 : i ≤ 9 := by omega
                    have h10 := p10_lt hi9
                    have h11 := p10_pos i
                    refine lv_iload hx hb dX8_putsNumber_85 (lv_at hl 2 rfl) ?_
                    refine x_ifN_le (tgt := 114) hx hb dX8_putsNumber_87 (by decide) (by omega) (fun q => absurd q (by omega)) (fun _ => ?_)
                    refine lv_aload_n hx hb dX8_putsNumber_90 rfl (lv_at hl 0 rfl) ?_
                    refine lv_bipush (v := nI 48) hx hb dX8_putsNumber_91 (by decide) ?_
                    refine lv_iload_n hx hb dX8_putsNumber_93 rfl (lv_at hl 1 rfl) ?_
                    refine lv_iload hx hb dX8_putsNumber_94 (lv_at hl 2 rfl) ?_
                    refine lv_idiv hx hb dX8_putsNumber_96 (p10_ne hi9) ?_
                    refine x_topi (y := nI (q9 / 10 ^ i)) (pk_div hm h11 h10) ?_
                    refine lv_bipush (v := nI 10) hx hb dX8_putsNumber_97 (by decide) ?_
                    refine lv_irem hx hb dX8_putsNumber_99 (by decide) ?_
                    refine x_topi (y := nI (q9 / 10 ^ i % 10)) (pk_rem (Nat.lt_of_le_of_lt (Nat.div_le_self _ _) hm) (by decide) (by decide)) ?_
                    refine x_addN hx hb dX8_putsNumber_100 ?_
                    rw [hv7] at h
                    refine cl_X8_246 C h (hM 30 (by decide)) rfl (c_X8_puts l D cy ad Ls st hM wn hwn x8 (nI (48 + (q9 / 10 ^ i % 10)))) (x_room (by omega)) ⟨Nat.zero_le _, Nat.zero_le _⟩ hl.1 (Nat.le_of_ble_eq_true rfl) dX8_putsNumber_101 (fun u1 H locs hp h => ?_)
                    have Eu1 := hp; clear hp
                    refine lv_iload hx hb dX8_putsNumber_104 (lv_at hl 2 rfl) ?_
                    refine lv_bipush (v := nI 10) hx hb dX8_putsNumber_106 (by decide) ?_
                    refine lv_idiv hx hb dX8_putsNumber_108 (by decide) ?_
                    refine lv_istore (lv' := [(5, .int ((nI (10 ^ i)) / (nI 10))), (0, .ref (ad 30)), (3, .int (nI q9))]) hx hb dX8_putsNumber_109 hl (by decide) rfl (fun ls hl => ?_)
                    refine lv_goto (tgt := 85) hx hb dX8_putsNumber_111 (by decide) ?_
                    exact ih85 u1 _ i _ Eu1 (by rw [hF]; rfl) (by omega) (p10_next hi9) (by omega) H locs ls h (lv_sub hl [1, 2, 0] rfl)
              have hw9 : wd.toNatClampNeg ≤ k := (cl_le (by omega)).mp c60
              exact L85 (t + 2) v8 x9 (t + 1) (nI (10 ^ t)) hv8 (by rw [numT, hsz, wPuts_app, show wd.toNatClampNeg - (t + 1) = k - (t + 1) by omega, ← hx9]) (Nat.le_refl _) (Or.inr ⟨t, rfl, rfl⟩) (Nat.lt_succ_self _) H locs ls h (lv_sub hl [0, 3, 4] rfl)
            · refine lv_aload_n hx hb dX8_putsNumber_63 rfl (lv_at hl 0 rfl) ?_
              refine lv_bipush (v := nI 32) hx hb dX8_putsNumber_64 (by decide) ?_
              rw [hv8] at h
              refine cl_X8_246 C h (hM 30 (by decide)) rfl (c_X8_puts l D cy ad Ls st hM wn hwn x9 (nI 32)) (x_room (by omega)) ⟨Nat.zero_le _, Nat.zero_le _⟩ hl.1 (Nat.le_of_ble_eq_true rfl) dX8_putsNumber_66 (fun u3 H locs hp h => ?_)
              have Eu3 := hp; clear hp
              refine lv_iinc (v := nI (k + 1)) (lv' := [(7, .int (nI (k + 1))), (0, .ref (ad 30)), (1, .int (nI q9)), (2, .int wd), (3, .int (nI q9)), (5, .int (nI (10 ^ t)))]) hx hb dX8_putsNumber_69 hl (k := 5) rfl (nI_add _ _) (by decide) rfl (fun ls hl => ?_)
              refine lv_goto (tgt := 57) hx hb dX8_putsNumber_72 (by decide) ?_
              exact ih57 u3 _ (k + 1) Eu3 (by rw [show k + 1 - (t + 1) = (k - (t + 1)) + 1 by omega, rep_s, wPuts_app, ← hx9]; rfl) (by omega) (Or.inr (by have := c60; rw [cl_le (by omega)] at this; omega)) (by omega) H locs ls h (lv_sub hl [1, 2, 3, 4, 5, 0] rfl)
        exact L57 (wd.toNatClampNeg + t + 3) v x0 (t + 1) hv (by rw [Nat.sub_self]; rfl) (Nat.le_refl _) (Or.inl rfl) (by omega) H locs ls h (lv_sub hl [2, 3, 4, 5, 7, 0] rfl)
      · refine lv_iload hx hb dX8_putsNumber_26 (lv_at hl 5 rfl) ?_
        refine lv_bipush (v := nI 10) hx hb dX8_putsNumber_28 (by decide) ?_
        refine x_mulN hx hb dX8_putsNumber_30 ?_
        refine lv_istore (lv' := [(5, .int (nI ((10 ^ t) * 10))), (0, .ref (ad 30)), (1, .int (nI q9)), (2, .int wd), (3, .int (nI q9)), (4, .int (nI (t + 1)))]) hx hb dX8_putsNumber_31 hl (by decide) rfl (fun ls hl => ?_)
        refine lv_iinc (v := nI ((t + 1) + 1)) (lv' := [(4, .int (nI ((t + 1) + 1))), (5, .int (nI ((10 ^ t) * 10))), (0, .ref (ad 30)), (1, .int (nI q9)), (2, .int wd), (3, .int (nI q9))]) hx hb dX8_putsNumber_33 hl (k := 5) rfl (nI_add _ _) (by decide) rfl (fun ls hl => ?_)
        refine lv_goto (tgt := 17) hx hb dX8_putsNumber_36 (by decide) ?_
        have t8 : t ≤ 8 := Nat.not_lt.mp fun q => by rw [show t = 9 by omega] at c23; exact absurd (Nat.div_lt_of_lt_mul (show q9 < 10 ^ 9 * 10 by omega)) (by omega)
        exact ih17 (t + 1) (by rw [ht, show 9 - t = (9 - (t + 1)) + 1 by omega, dsz, if_neg (by omega), Nat.pow_succ, ← Nat.div_div_eq_div_mul]; omega) (by omega) (by omega) H locs ls h (lv_sub hl [2, 3, 4, 5, 0, 1] rfl)
  exact L17 10 0 (by rw [Nat.pow_zero, Nat.div_one, Nat.zero_add]) (by omega) (by omega) H locs ls h (lv_sub hl [3, 4, 5, 2, 1, 0] rfl)
