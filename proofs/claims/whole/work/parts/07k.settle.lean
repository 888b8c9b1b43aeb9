/-! ===== the reference: settle ===== -/
def mgM (nt : Nat) (kn : Nat → Nat → Nat) (ln : Nat → Nat) (td p : Int32) (b : Nat) (x : XS × Nat × Nat) : XS × Nat × Nat :=
  if ga x.1 62 b = p then
    (if mnN x.1 nt (kn b) b (ln b) - mxS (mnS x.1 nt (kn b) b (ln b)) b x.2.1 = 0 then (mnS x.1 nt (kn b) b (ln b), x.2)
    else if x.2.1 < 40 then (si (sa (sa (sa (mnS x.1 nt (kn b) b (ln b)) 72 (upd (ga (mnS x.1 nt (kn b) b (ln b)) 72) x.2.1 (nI b))) 73 (upd (ga (mnS x.1 nt (kn b) b (ln b)) 73) x.2.1 (mnN x.1 nt (kn b) b (ln b) - mxS (mnS x.1 nt (kn b) b (ln b)) b x.2.1))) 74 (upd (ga (mnS x.1 nt (kn b) b (ln b)) 74) x.2.1 td)) 41 30 (nI (x.2.1 + 1)), x.2.1 + 1, x.2.2 + 1)
    else (mnS x.1 nt (kn b) b (ln b), x.2))
  else x
def msA (nt : Nat) (kn : Nat → Nat → Nat) (ln : Nat → Nat) (td p : Int32) (x : XS × Nat × Nat) : Nat → XS × Nat × Nat
  | 0 => x
  | b + 1 => mgM nt kn ln td p b (msA nt kn ln td p x b)
/-- what the reference's settling leaves alone -/
def mKp (st u : XS) : Prop := (∀ k, gb u k = gb st k) ∧ (∀ f k, gp u f k = gp st f k) ∧ (∀ f k, ¬ (f = 41 ∧ k = 30) → gi u f k = gi st f k) ∧ (∀ k, ¬ k = 69 → ¬ k = 70 → ¬ k = 72 → ¬ k = 73 → ¬ k = 74 → ga u k = ga st k) ∧ ∀ f k, gl u f k = gl st f k
theorem mKp_rf (st : XS) : mKp st st := ⟨fun _ => rfl, fun _ _ => rfl, fun _ _ _ => rfl, fun _ _ _ _ _ _ => rfl, fun _ _ => rfl⟩
theorem mKp_tr {a b c : XS} (h : mKp a b) (g : mKp b c) : mKp a c :=
  ⟨fun k => (g.1 k).trans (h.1 k), fun f k => (g.2.1 f k).trans (h.2.1 f k), fun f k h1 => (g.2.2.1 f k h1).trans (h.2.2.1 f k h1), fun k h1 h2 h3 h4 h5 => (g.2.2.2.1 k h1 h2 h3 h4 h5).trans (h.2.2.2.1 k h1 h2 h3 h4 h5), fun f k => (g.2.2.2.2 f k).trans (h.2.2.2.2 f k)⟩
theorem mnS_K (st : XS) (nt : Nat) (kn : Nat → Nat) (b n : Nat) : mKp st (mnS st nt kn b n) :=
  ⟨fun _ => rfl, fun _ _ => rfl, fun _ _ _ => rfl, fun k h1 h2 _ _ _ => by unfold mnS; rw [ga_sa, if_neg h1, ga_sa, if_neg h2], fun _ _ => rfl⟩
theorem mgM_K (nt : Nat) (kn : Nat → Nat → Nat) (ln : Nat → Nat) (td p : Int32) (b : Nat) (x : XS × Nat × Nat) : mKp x.1 (mgM nt kn ln td p b x).1 := by
  unfold mgM
  split
  · split
    · exact mnS_K ..
    · split
      · refine mKp_tr (mnS_K x.1 nt (kn b) b (ln b)) ⟨fun _ => rfl, fun _ _ => rfl, fun f k h1 => ?_, fun k _ _ h3 h4 h5 => ?_, fun _ _ => rfl⟩
        · rw [gi_si, if_neg h1]; rfl
        · simp only [ga_si, ga_sa, if_neg h3, if_neg h4, if_neg h5]
      · exact mnS_K ..
  · exact mKp_rf _
theorem msA_K (nt : Nat) (kn : Nat → Nat → Nat) (ln : Nat → Nat) (td p : Int32) (x : XS × Nat × Nat) : ∀ i, mKp x.1 (msA nt kn ln td p x i).1 := by
  intro i
  induction i with
  | zero => exact mKp_rf _
  | succ i ih => exact mKp_tr ih (mgM_K ..)
theorem mgM_n (nt : Nat) (kn : Nat → Nat → Nat) (ln : Nat → Nat) (td p : Int32) (b : Nat) (x : XS × Nat × Nat) (h : gi x.1 41 30 = nI x.2.1 ∧ x.2.1 ≤ 40) : gi (mgM nt kn ln td p b x).1 41 30 = nI (mgM nt kn ln td p b x).2.1 ∧ (mgM nt kn ln td p b x).2.1 ≤ 40 := by
  unfold mgM
  split
  · split
    · exact h
    · split
      · next hc => exact ⟨by rw [gi_si, if_pos ⟨rfl, rfl⟩], hc⟩
      · exact h
  · exact h
theorem msA_n (nt : Nat) (kn : Nat → Nat → Nat) (ln : Nat → Nat) (td p : Int32) (x : XS × Nat × Nat) (h : gi x.1 41 30 = nI x.2.1 ∧ x.2.1 ≤ 40) : ∀ i, gi (msA nt kn ln td p x i).1 41 30 = nI (msA nt kn ln td p x i).2.1 ∧ (msA nt kn ln td p x i).2.1 ≤ 40 := by
  intro i
  induction i with
  | zero => exact h
  | succ i ih => exact mgM_n _ _ _ _ _ _ _ ih
theorem mxS_K {st u : XS} (h : ∀ k, ¬ k = 69 → ¬ k = 70 → ga u k = ga st k) (b : Nat) : ∀ n, mxS u b n = mxS st b n := by
  intro n
  induction n with
  | zero => show ga u 68 b = ga st 68 b; rw [h 68 (by decide) (by decide)]
  | succ n ih => rw [mxS, mxS, ih, h 72 (by decide) (by decide), h 73 (by decide) (by decide)]

set_option maxHeartbeats 4000000 in
set_option maxRecDepth 100000 in
theorem c_X8_settle (l : Launch) (D : va_G) (cy : Nat → ClassId) (ad : Nat → Nat) (Ls : List Nat) (st : XS) (hM : ∀ k, k ∈ LsM → k ∈ Ls) (nt : Nat) (hnt60 : nt ≤ 60) (hn17 : gi st 17 30 = nI nt) (nB : Nat) (hnB : nB ≤ 30) (hn28 : gi st 28 30 = nI nB) (ln : Nat → Nat) (hmany : ∀ b, b < nB → ln b ≤ 6 ∧ ga st 61 b = nI (ln b)) (kn : Nat → Nat → Nat) (hkn : ∀ b, b < nB → ∀ k, k < ln b → kn b k < 4 ∧ ga st 64 (6 * b + k) = nI (kn b k)) (nn : Nat) (hn40 : nn ≤ 40) (hn41 : gi st 41 30 = nI nn) (td : Int32) (htd : gi st 16 30 = td) (p9 : Int32) : xMi l yX8_settle cX8_settle 5 (some .int) 4 D cy ad Ls st [.ref (ad 30), .int p9] (fun r u => (¬ kbPlace p9 = 0 ∧ r = nI 0 ∧ u = si st 0 30 (nI (kbPlace p9))) ∨ (kbPlace p9 = 0 ∧ r = nI (msA nt kn ln td p9 (si st 0 30 (nI 0), nn, 0) nB).2.2 ∧ u = (msA nt kn ln td p9 (si st 0 30 (nI 0), nn, 0) nB).1)) := by
  intro sz
  refine x_of sz (by decide +kernel) (Nat.le_of_ble_eq_true rfl) ?_
  intro p e s m args below meth c ls hx hb hr hlocks C hsz h hl
  have hl : lv_has ls 5 [(0, .ref (ad 30)), (1, .int p9)] := hl
  obtain ⟨H, eH⟩ : ∃ z, z = s.heap := ⟨_, rfl⟩
  obtain ⟨locs, eL⟩ : ∃ z : List Loc, z = [] := ⟨_, rfl⟩
  rw [← eH, ← eL] at h
  rw [← eH, ← eL]
  clear eH eL
  refine lv_aload_n hx hb dX8_settle_0 rfl (lv_at hl 0 rfl) ?_
  refine lv_iload_n hx hb dX8_settle_1 rfl (lv_at hl 1 rfl) ?_
  refine cl_X8_190 C h (c_X8_isFour l D cy ad Ls st p9) (x_room (by omega)) ⟨Nat.zero_le _, Nat.zero_le _⟩ hl.1 (Nat.le_of_ble_eq_true rfl) dX8_settle_2 (fun r2 u1 H locs hp h => ?_)
  obtain ⟨er2, eu1⟩ := hp; rw [eu1] at h; clear eu1 u1; refine x_topi er2 ?_; clear er2 r2
  refine x_ifb_eq (tgt := 12) hx hb dX8_settle_5 (by decide) (fun c5 => ?_) (fun c5 => ?_)
  · refine lv_iconst (v := nI 1) hx hb dX8_settle_12 (by decide) ?_
    refine pf_X8_110 C h (hM 30 (by decide)) rfl dX8_settle_13 (fun H locs u3 eu3 h => ?_)
    have e4 : gi u3 28 30 = nI nB := by rw [eu3, gi_si, if_neg (by omega)]; exact hn28
    have e5 : gi u3 0 30 = nI 1 := by rw [eu3, gi_si, if_pos ⟨rfl, rfl⟩]
    refine lv_iconst (v := nI 0) hx hb dX8_settle_16 (by decide) ?_
    refine lv_istore_n (lv' := [(2, .int (nI 0)), (0, .ref (ad 30)), (1, .int p9)]) hx hb dX8_settle_17 rfl hl (by decide) rfl (fun ls hl => ?_)
    refine lv_iconst (v := nI 0) hx hb dX8_settle_18 (by decide) ?_
    refine lv_istore_n (lv' := [(3, .int (nI 0)), (2, .int (nI 0)), (0, .ref (ad 30)), (1, .int p9)]) hx hb dX8_settle_19 rfl hl (by decide) rfl (fun ls hl => ?_)
    refine lv_iload_n hx hb dX8_settle_20 rfl (lv_at hl 0 rfl) ?_
    refine lv_aload_n hx hb dX8_settle_21 rfl (lv_at hl 2 rfl) ?_
    refine gf_X8_210 C h (hM 30 (by decide)) rfl dX8_settle_22 ?_
    refine x_topi e4 ?_
    refine x_icmpN_ge (tgt := 129) hx hb dX8_settle_25 (by decide) (by omega) (by omega) (fun c25 => ?_) (fun c25 => ?_)
    · refine lv_iload_n hx hb dX8_settle_129 rfl (lv_at hl 1 rfl) ?_
      exact x_iret C hr hlocks h (Or.inl ⟨by rw [show kbPlace p9 = 1 from by simp only [kbPlace, if_true, if_false, Bool.not_true, Bool.not_false, Bool.and_true, Bool.true_and, Bool.and_false, Bool.false_and, Bool.or_true, Bool.true_or, Bool.or_false, Bool.false_or, Bool.false_eq_true, eq_self, decide_true, decide_false, c5]]; decide, rfl, by rw [eu3, show kbPlace p9 = 1 from by simp only [kbPlace, if_true, if_false, Bool.not_true, Bool.not_false, Bool.and_true, Bool.true_and, Bool.and_false, Bool.false_and, Bool.or_true, Bool.true_or, Bool.or_false, Bool.false_or, Bool.false_eq_true, eq_self, decide_true, decide_false, c5]]⟩) dX8_settle_130
    · refine lv_aload_n hx hb dX8_settle_28 rfl (lv_at hl 2 rfl) ?_
      refine gf_X8_110 C h (hM 30 (by decide)) rfl dX8_settle_29 ?_
      refine x_topi e5 ?_
      refine x_ifN_ne (tgt := 129) hx hb dX8_settle_32 (by decide) (by decide) (fun _ => ?_) (fun z9 => absurd z9 (by decide))
      refine lv_iload_n hx hb dX8_settle_129 rfl (lv_at hl 1 rfl) ?_
      exact x_iret C hr hlocks h (Or.inl ⟨by rw [show kbPlace p9 = 1 from by simp only [kbPlace, if_true, if_false, Bool.not_true, Bool.not_false, Bool.and_true, Bool.true_and, Bool.and_false, Bool.false_and, Bool.or_true, Bool.true_or, Bool.or_false, Bool.false_or, Bool.false_eq_true, eq_self, decide_true, decide_false, c5]]; decide, rfl, by rw [eu3, show kbPlace p9 = 1 from by simp only [kbPlace, if_true, if_false, Bool.not_true, Bool.not_false, Bool.and_true, Bool.true_and, Bool.and_false, Bool.false_and, Bool.or_true, Bool.true_or, Bool.or_false, Bool.false_or, Bool.false_eq_true, eq_self, decide_true, decide_false, c5]]⟩) dX8_settle_130
  · refine lv_iconst (v := nI 0) hx hb dX8_settle_8 (by decide) ?_
    refine lv_goto (tgt := 13) hx hb dX8_settle_9 (by decide) ?_
    refine pf_X8_110 C h (hM 30 (by decide)) rfl dX8_settle_13 (fun H locs u6 eu6 h => ?_)
    have e7 : gi u6 28 30 = nI nB := by rw [eu6, gi_si, if_neg (by omega)]; exact hn28
    have e8 : gi u6 0 30 = nI 0 := by rw [eu6, gi_si, if_pos ⟨rfl, rfl⟩]
    refine lv_iconst (v := nI 0) hx hb dX8_settle_16 (by decide) ?_
    refine lv_istore_n (lv' := [(2, .int (nI 0)), (0, .ref (ad 30)), (1, .int p9)]) hx hb dX8_settle_17 rfl hl (by decide) rfl (fun ls hl => ?_)
    refine lv_iconst (v := nI 0) hx hb dX8_settle_18 (by decide) ?_
    refine lv_istore_n (lv' := [(3, .int (nI 0)), (2, .int (nI 0)), (0, .ref (ad 30)), (1, .int p9)]) hx hb dX8_settle_19 rfl hl (by decide) rfl (fun ls hl => ?_)
    have L20 : ∀ (N20 : Nat) (v : XS) (n2 : Nat) (m2 : Nat) (b : Nat) (hv : v = (msA nt kn ln td p9 (si st 0 30 (nI 0), nn, 0) b).1) (hnn : n2 = (msA nt kn ln td p9 (si st 0 30 (nI 0), nn, 0) b).2.1) (hmm : m2 = (msA nt kn ln td p9 (si st 0 30 (nI 0), nn, 0) b).2.2) (hbB : b ≤ nB) (hN : nB - b < N20) (H : Heap) (locs : List Loc) (ls : Array Slot), xH D cy ad Ls (XA ad Ls sz) s v H locs → lv_has ls 5 [(0, .ref (ad 30)), (1, .int p9), (2, .int (nI m2)), (3, .int (nI b))] → W p l e (xR 4) s m args below meth c H locs 0 0 (MQ below (va_Qi (fun r u => (¬ kbPlace p9 = 0 ∧ r = nI 0 ∧ u = si st 0 30 (nI (kbPlace p9))) ∨ (kbPlace p9 = 0 ∧ r = nI (msA nt kn ln td p9 (si st 0 30 (nI 0), nn, 0) nB).2.2 ∧ u = (msA nt kn ln td p9 (si st 0 30 (nI 0), nn, 0) nB).1)) (fun u => xPost D cy ad Ls (XA ad Ls sz) u) (XA ad Ls sz)) args s 0 0 (XA ad Ls sz)) (F0 m 20 ls []) := by
      intro N20
      induction N20 with
      | zero => intro v n2 m2 b hv hnn hmm hbB hN; omega
      | succ N20 ih20 =>
        intro v n2 m2 b hv hnn hmm hbB hN H locs ls h hl
        have hK : mKp (si st 0 30 (nI 0)) v := by rw [hv]; exact msA_K ..
        have hgn := msA_n nt kn ln td p9 (si st 0 30 (nI 0), nn, 0) ⟨hn41, hn40⟩ b
        rw [← hv, ← hnn] at hgn
        obtain ⟨f41, hn2⟩ := hgn
        have f0 : gi v 0 30 = nI 0 := (hK.2.2.1 0 30 (by decide)).trans ((gi_si ..).trans (if_pos ⟨rfl, rfl⟩))
        have f28 : gi v 28 30 = nI nB := (hK.2.2.1 28 30 (by decide)).trans hn28
        have f16 : gi v 16 30 = td := (hK.2.2.1 16 30 (by decide)).trans htd
        have f17 : gi v 17 30 = nI nt := (hK.2.2.1 17 30 (by decide)).trans hn17
        have fa : ∀ k, ¬ k = 69 → ¬ k = 70 → ¬ k = 72 → ¬ k = 73 → ¬ k = 74 → ga v k = ga st k := hK.2.2.2.1
        have hxb : msA nt kn ln td p9 (si st 0 30 (nI 0), nn, 0) b = (v, n2, m2) := Prod.ext hv.symm (Prod.ext hnn.symm hmm.symm)
        have hsx : msA nt kn ln td p9 (si st 0 30 (nI 0), nn, 0) (b + 1) = mgM nt kn ln td p9 b (v, n2, m2) := by rw [← hxb]; rfl
        refine lv_iload_n hx hb dX8_settle_20 rfl (lv_at hl 3 rfl) ?_
        refine lv_aload_n hx hb dX8_settle_21 rfl (lv_at hl 0 rfl) ?_
        refine gf_X8_210 C h (hM 30 (by decide)) rfl dX8_settle_22 ?_
        refine x_topi f28 ?_
        refine x_icmpN_ge (tgt := 129) hx hb dX8_settle_25 (by decide) (by omega) (by omega) (fun c25 => ?_) (fun c25 => ?_)
        · refine lv_iload_n hx hb dX8_settle_129 rfl (lv_at hl 2 rfl) ?_
          exact x_iret C hr hlocks h (Or.inr ⟨by simp only [kbPlace, if_true, if_false, Bool.not_true, Bool.not_false, Bool.and_true, Bool.true_and, Bool.and_false, Bool.false_and, Bool.or_true, Bool.true_or, Bool.or_false, Bool.false_or, Bool.false_eq_true, eq_self, decide_true, decide_false, c5], by rw [show nB = b by omega, ← hmm], by rw [show nB = b by omega]; exact hv⟩) dX8_settle_130
        · refine lv_aload_n hx hb dX8_settle_28 rfl (lv_at hl 0 rfl) ?_
          refine gf_X8_110 C h (hM 30 (by decide)) rfl dX8_settle_29 ?_
          refine x_topi f0 ?_
          refine x_ifN_ne (tgt := 129) hx hb dX8_settle_32 (by decide) (by decide) (fun z9 => absurd z9 (by decide)) (fun _ => ?_)
          refine lv_aload_n hx hb dX8_settle_35 rfl (lv_at hl 0 rfl) ?_
          refine gf_X8_74 C h (hM 30 (by decide)) rfl (k2 := 62) rfl dX8_settle_36 ?_
          refine lv_iload_n hx hb dX8_settle_39 rfl (lv_at hl 3 rfl) ?_
          refine x_ald C h (hM 62 (by decide)) (n := 30) rfl b (by omega) (by decide) rfl dX8_settle_40 ?_
          refine lv_iload_n hx hb dX8_settle_41 rfl (lv_at hl 1 rfl) ?_
          refine lv_icmp_ne (tgt := 59) hx hb dX8_settle_42 (by decide) (fun c42 => ?_) (fun c42 => ?_)
          · refine lv_iconst (v := nI 0) hx hb dX8_settle_59 (by decide) ?_
            refine lv_istore (lv' := [(4, .int (nI 0)), (0, .ref (ad 30)), (1, .int p9), (2, .int (nI m2)), (3, .int (nI b))]) hx hb dX8_settle_60 hl (by decide) rfl (fun ls hl => ?_)
            refine lv_iload hx hb dX8_settle_62 (lv_at hl 0 rfl) ?_
            refine x_ifN_eq (tgt := 123) hx hb dX8_settle_64 (by decide) (by decide) (fun _ => ?_) (fun z9 => absurd z9 (by decide))
            refine lv_iinc (v := nI (b + 1)) (lv' := [(3, .int (nI (b + 1))), (4, .int (nI 0)), (0, .ref (ad 30)), (1, .int p9), (2, .int (nI m2))]) hx hb dX8_settle_123 hl (k := 4) rfl (nI_add _ _) (by decide) rfl (fun ls hl => ?_)
            refine lv_goto (tgt := 20) hx hb dX8_settle_126 (by decide) ?_
            have hmg : mgM nt kn ln td p9 b (v, n2, m2) = (v, n2, m2) := by unfold mgM; rw [if_neg c42]
            exact ih20 v n2 m2 (b + 1) (by rw [hsx, hmg]) (by rw [hsx, hmg]) (by rw [hsx, hmg]) (by omega) (by omega) H locs ls h (lv_sub hl [2, 3, 4, 0] rfl)
          · refine lv_aload_n hx hb dX8_settle_45 rfl (lv_at hl 0 rfl) ?_
            refine lv_iload_n hx hb dX8_settle_46 rfl (lv_at hl 3 rfl) ?_
            refine cl_X8_231 C h (hM 30 (by decide)) rfl (c_X8_taxNow l D cy ad Ls v hM nt hnt60 f17 b (ln b) (by omega) (hmany b (by omega)).1 (by rw [fa 61 (by decide) (by decide) (by decide) (by decide) (by decide)]; exact (hmany b (by omega)).2) (kn b) (by rw [fa 64 (by decide) (by decide) (by decide) (by decide) (by decide)]; exact hkn b (by omega))) (x_room (by omega)) ⟨Nat.zero_le _, Nat.zero_le _⟩ hl.1 (Nat.le_of_ble_eq_true rfl) dX8_settle_47 (fun r10 u9 H locs hp h => ?_)
            obtain ⟨er, eu9⟩ := hp; refine x_topi (y := mnN v nt (kn b) b (ln b)) er ?_; clear er r10
            replace eu9 : u9 = mnS v nt (kn b) b (ln b) := eu9
            have g41 : gi u9 41 30 = nI n2 := by rw [eu9]; exact f41
            have g16 : gi u9 16 30 = td := by rw [eu9]; exact f16
            have g28 : gi u9 28 30 = nI nB := by rw [eu9]; exact f28
            refine lv_aload_n hx hb dX8_settle_50 rfl (lv_at hl 0 rfl) ?_
            refine lv_iload_n hx hb dX8_settle_51 rfl (lv_at hl 3 rfl) ?_
            refine cl_X8_228 C h (hM 30 (by decide)) rfl (c_X8_taxed l D cy ad Ls u9 hM b n2 (by omega) hn2 g41) (x_room (by omega)) ⟨Nat.zero_le _, Nat.zero_le _⟩ hl.1 (Nat.le_of_ble_eq_true rfl) dX8_settle_52 (fun r12 u11 H locs hp h => ?_)
            obtain ⟨er12, eu11⟩ := hp; rw [eu11] at h; clear eu11 u11; refine x_topi er12 ?_; clear er12 r12
            refine x_topi (y := mxS (mnS v nt (kn b) b (ln b)) b n2) (by rw [eu9]) ?_
            refine lv_isub hx hb dX8_settle_55 ?_
            refine lv_goto (tgt := 60) hx hb dX8_settle_56 (by decide) ?_
            refine lv_istore (lv' := [(4, .int ((mnN v nt (kn b) b (ln b)) - (mxS (mnS v nt (kn b) b (ln b)) b n2))), (0, .ref (ad 30)), (1, .int p9), (2, .int (nI m2)), (3, .int (nI b))]) hx hb dX8_settle_60 hl (by decide) rfl (fun ls hl => ?_)
            refine lv_iload hx hb dX8_settle_62 (lv_at hl 0 rfl) ?_
            refine lv_if_eq (tgt := 123) hx hb dX8_settle_64 (by decide) (fun c64 => ?_) (fun c64 => ?_)
            · refine lv_iinc (v := nI (b + 1)) (lv' := [(3, .int (nI (b + 1))), (4, .int ((mnN v nt (kn b) b (ln b)) - (mxS (mnS v nt (kn b) b (ln b)) b n2))), (0, .ref (ad 30)), (1, .int p9), (2, .int (nI m2))]) hx hb dX8_settle_123 hl (k := 4) rfl (nI_add _ _) (by decide) rfl (fun ls hl => ?_)
              refine lv_goto (tgt := 20) hx hb dX8_settle_126 (by decide) ?_
              have hmg : mgM nt kn ln td p9 b (v, n2, m2) = (u9, n2, m2) := by unfold mgM; rw [if_pos c42, if_pos c64]; (rw [eu9]) <;> rfl
              exact ih20 u9 n2 m2 (b + 1) (by rw [hsx, hmg]) (by rw [hsx, hmg]) (by rw [hsx, hmg]) (by omega) (by omega) H locs ls h (lv_sub hl [2, 3, 4, 0] rfl)
            · refine lv_aload_n hx hb dX8_settle_67 rfl (lv_at hl 1 rfl) ?_
              refine gf_X8_219 C h (hM 30 (by decide)) rfl dX8_settle_68 ?_
              refine x_topi g41 ?_
              refine lv_bipush (v := nI 40) hx hb dX8_settle_71 (by decide) ?_
              refine x_icmpN_ge (tgt := 123) hx hb dX8_settle_73 (by decide) (by omega) (by omega) (fun c73 => ?_) (fun c73 => ?_)
              · refine lv_iinc (v := nI (b + 1)) (lv' := [(3, .int (nI (b + 1))), (4, .int ((mnN v nt (kn b) b (ln b)) - (mxS (mnS v nt (kn b) b (ln b)) b n2))), (0, .ref (ad 30)), (1, .int p9), (2, .int (nI m2))]) hx hb dX8_settle_123 hl (k := 4) rfl (nI_add _ _) (by decide) rfl (fun ls hl => ?_)
                refine lv_goto (tgt := 20) hx hb dX8_settle_126 (by decide) ?_
                have hmg : mgM nt kn ln td p9 b (v, n2, m2) = (u9, n2, m2) := by unfold mgM; rw [if_pos c42, if_neg c64, if_neg (Nat.not_lt.mpr c73)]; (rw [eu9]) <;> rfl
                exact ih20 u9 n2 m2 (b + 1) (by rw [hsx, hmg]) (by rw [hsx, hmg]) (by rw [hsx, hmg]) (by omega) (by omega) H locs ls h (lv_sub hl [2, 3, 4, 0] rfl)
              · refine lv_aload_n hx hb dX8_settle_76 rfl (lv_at hl 1 rfl) ?_
                refine gf_X8_101 C h (hM 30 (by decide)) rfl (k2 := 72) rfl dX8_settle_77 ?_
                refine lv_aload_n hx hb dX8_settle_80 rfl (lv_at hl 1 rfl) ?_
                refine gf_X8_219 C h (hM 30 (by decide)) rfl dX8_settle_81 ?_
                refine x_topi g41 ?_
                refine lv_iload_n hx hb dX8_settle_84 rfl (lv_at hl 4 rfl) ?_
                refine x_ast C h (hM 72 (by decide)) (n := 40) rfl n2 (by omega) (by decide) rfl dX8_settle_85 (fun H locs u13 eu13 h => ?_)
                have e14 : gi u13 41 30 = nI n2 := by rw [eu13]; exact g41
                have e15 : gi u13 16 30 = td := by rw [eu13]; exact g16
                have e16 : gi u13 28 30 = nI nB := by rw [eu13]; exact g28
                refine lv_aload_n hx hb dX8_settle_86 rfl (lv_at hl 1 rfl) ?_
                refine gf_X8_104 C h (hM 30 (by decide)) rfl (k2 := 73) rfl dX8_settle_87 ?_
                refine lv_aload_n hx hb dX8_settle_90 rfl (lv_at hl 1 rfl) ?_
                refine gf_X8_219 C h (hM 30 (by decide)) rfl dX8_settle_91 ?_
                refine x_topi e14 ?_
                refine lv_iload hx hb dX8_settle_94 (lv_at hl 0 rfl) ?_
                refine x_ast C h (hM 73 (by decide)) (n := 40) rfl n2 (by omega) (by decide) rfl dX8_settle_96 (fun H locs u17 eu17 h => ?_)
                have e18 : gi u17 41 30 = nI n2 := by rw [eu17]; exact e14
                have e19 : gi u17 16 30 = td := by rw [eu17]; exact e15
                have e20 : gi u17 28 30 = nI nB := by rw [eu17]; exact e16
                refine lv_aload_n hx hb dX8_settle_97 rfl (lv_at hl 1 rfl) ?_
                refine gf_X8_107 C h (hM 30 (by decide)) rfl (k2 := 74) rfl dX8_settle_98 ?_
                refine lv_aload_n hx hb dX8_settle_101 rfl (lv_at hl 1 rfl) ?_
                refine gf_X8_219 C h (hM 30 (by decide)) rfl dX8_settle_102 ?_
                refine x_topi e18 ?_
                refine lv_aload_n hx hb dX8_settle_105 rfl (lv_at hl 1 rfl) ?_
                refine gf_X8_187 C h (hM 30 (by decide)) rfl dX8_settle_106 ?_
                refine x_topi e19 ?_
                refine x_ast C h (hM 74 (by decide)) (n := 40) rfl n2 (by omega) (by decide) rfl dX8_settle_109 (fun H locs u21 eu21 h => ?_)
                have e22 : gi u21 41 30 = nI n2 := by rw [eu21]; exact e18
                have e23 : gi u21 16 30 = td := by rw [eu21]; exact e19
                have e24 : gi u21 28 30 = nI nB := by rw [eu21]; exact e20
                refine lv_aload_n hx hb dX8_settle_110 rfl (lv_at hl 1 rfl) ?_
                refine lv_dup hx hb dX8_settle_111 rfl ?_
                refine gf_X8_219 C h (hM 30 (by decide)) rfl dX8_settle_112 ?_
                refine x_topi e22 ?_
                refine lv_iconst (v := nI 1) hx hb dX8_settle_115 (by decide) ?_
                refine x_addN hx hb dX8_settle_116 ?_
                refine pf_X8_219 C h (hM 30 (by decide)) rfl dX8_settle_117 (fun H locs u25 eu25 h => ?_)
                have e27 : gi u25 16 30 = td := by rw [eu25, gi_si, if_neg (by omega)]; exact e23
                have e28 : gi u25 28 30 = nI nB := by rw [eu25, gi_si, if_neg (by omega)]; exact e24
                have e29 : gi u25 41 30 = nI (n2 + 1) := by rw [eu25, gi_si, if_pos ⟨rfl, rfl⟩]
                refine lv_iinc (v := nI (m2 + 1)) (lv' := [(2, .int (nI (m2 + 1))), (4, .int ((mnN v nt (kn b) b (ln b)) - (mxS (mnS v nt (kn b) b (ln b)) b n2))), (0, .ref (ad 30)), (1, .int p9), (3, .int (nI b))]) hx hb dX8_settle_120 hl (k := 3) rfl (nI_add _ _) (by decide) rfl (fun ls hl => ?_)
                refine lv_iinc (v := nI (b + 1)) (lv' := [(3, .int (nI (b + 1))), (2, .int (nI (m2 + 1))), (4, .int ((mnN v nt (kn b) b (ln b)) - (mxS (mnS v nt (kn b) b (ln b)) b n2))), (0, .ref (ad 30)), (1, .int p9)]) hx hb dX8_settle_123 hl (k := 4) rfl (nI_add _ _) (by decide) rfl (fun ls hl => ?_)
                refine lv_goto (tgt := 20) hx hb dX8_settle_126 (by decide) ?_
                have hmg : mgM nt kn ln td p9 b (v, n2, m2) = (u25, (n2 + 1), (m2 + 1)) := by unfold mgM; rw [if_pos c42, if_neg c64, if_pos c73]; (rw [eu25, eu21, eu17, eu13, eu9]) <;> rfl
                exact ih20 u25 (n2 + 1) (m2 + 1) (b + 1) (by rw [hsx, hmg]) (by rw [hsx, hmg]) (by rw [hsx, hmg]) (by omega) (by omega) H locs ls h (lv_sub hl [3, 4, 1, 0] rfl)
    exact L20 (nB + 1) u6 nn 0 0 eu6 rfl rfl (by omega) (by omega) H locs ls h (lv_sub hl [2, 3, 1, 0] rfl)
