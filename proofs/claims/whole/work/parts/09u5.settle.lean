/-! ===== settle ===== -/
theorem stA_up (nr nB : Nat) (ln : Nat → Nat) (p : Int32) (x : XS × Nat) : ∀ k, stA nr nB ln p x (nB + k) = stA nr nB ln p x nB := by
  intro k
  induction k with
  | zero => rfl
  | succ k ih => show stA nr nB ln p x (nB + k + 1) = _; rw [stA, if_neg (fun q => absurd q.1 (by omega))]; exact ih
theorem stA_30 (nr nB : Nat) (h : nB ≤ 30) (ln : Nat → Nat) (p : Int32) (x : XS × Nat) : stA nr nB ln p x 30 = stA nr nB ln p x nB := by
  have e := stA_up nr nB ln p x (30 - nB)
  rw [show nB + (30 - nB) = 30 by omega] at e
  exact e
theorem mgS_12 (nr b n : Nat) (x : XS × Nat) (k : Nat) (h : ¬ k = 100 + 6 * b) : gi (mgS nr b n x).1 12 k = gi x.1 12 k := by
  unfold mgS
  split
  · rfl
  · rw [gi_si, if_neg (fun q => h q.2), gi_si, if_neg (by omega)]; rfl
theorem stA_12 (nr nB : Nat) (ln : Nat → Nat) (p : Int32) (x : XS × Nat) (k : Nat) (h : ∀ b, b < nB → ¬ k = 100 + 6 * b) : ∀ i, gi (stA nr nB ln p x i).1 12 k = gi x.1 12 k := by
  intro i
  induction i with
  | zero => rfl
  | succ i ih =>
    rw [stA]
    split
    · next q => exact (mgS_12 _ _ _ _ _ (h i q.1)).trans ih
    · exact ih
theorem settle_LI {st v u0 w : XS} {t : Nat} {Ls : List Nat} {np g nF : Nat} {fm fz sz : Nat → Nat} {nr td nB nb : Nat} {ln : Nat → Nat} {us : Nat → Option Nat} {nl : Nat} (ha : LIa Ls nB nF st) (hp : LIp st np) (hf : LIf st g nF fm fz sz) (hr : LIr st nr) (hm : LIm st t td) (hd : LId st nB nb) (hb : LIb st nr t nB ln us) (hn : LIn st nB nl) (p : Int32) (x : Int64)
    (ev : v = (stA nr nB (lnX nB nb ln) p (st, nl) nB).1) (eu : u0 = si (sl v 0 90 x) 0 30 (nI 0)) (ew : w = (msA nr (knX st) (lnX nB nb ln) (nI td) p (u0, nl, 0) nB).1) : LI (t + 1) Ls w := by
  have hB30 : nB ≤ 30 := ha.2.2.2.2.2.2.2.2.1
  have K1 : stK st v := by rw [ev]; exact stA_K nr nB (lnX nB nb ln) p (st, nl) nB
  have K2 : mKp u0 w := by rw [ew]; exact msA_K nr (knX st) (lnX nB nb ln) (nI td) p (u0, nl, 0) nB
  have n1 : gi v 3 5 = nI (stA nr nB (lnX nB nb ln) p (st, nl) nB).2 := by rw [ev]; exact stA_n nr nB (lnX nB nb ln) p (st, nl) hn.2.1 nB
  have hu : ∀ k, 47 < k → ga u0 k = ga st k := fun k hk => by
    rw [eu, ga_si, ga_sl]; exact K1.2.2.2.1 k (by omega) (by omega) (by omega) (by omega)
  have n2 : gi w 41 30 = nI (msA nr (knX st) (lnX nB nb ln) (nI td) p (u0, nl, 0) nB).2.1 := by
    rw [ew]; refine (msA_n nr (knX st) (lnX nB nb ln) (nI td) p (u0, nl, 0) ⟨?_, hn.1⟩ nB).1
    show gi u0 41 30 = nI nl
    rw [eu, gi_si, if_neg (by omega), gi_sl]
    exact (K1.2.2.1 41 30 (by omega) (by omega)).trans hn.2.2.1
  obtain ⟨c1, c2, c3, c4, c5⟩ := cl_st (nb := nb) (nl := nl) hr hb hB30 p nB (Nat.le_refl _)
  obtain ⟨r1, _, r2, r3, r4⟩ := rf_st (u := u0) (nb := nb) hr hb hn hB30 p (nI td) hu nB (Nat.le_refl _)
  rw [← ev] at c2 c3 c4 c5
  rw [← ew] at r2 r3 r4
  rw [c1] at n1
  rw [r1] at n2
  rw [hm.2.1] at c4
  have f0 : ∀ k, ¬ k = 69 → ¬ k = 70 → ¬ k = 72 → ¬ k = 73 → ¬ k = 74 → ga w k = ga v k := fun k h1 h2 h3 h4 h5 => by rw [K2.2.2.2.1 k h1 h2 h3 h4 h5, eu, ga_si, ga_sl]
  have i0 : ∀ f k, (¬ (f = 41 ∧ k = 30) ∧ ¬ (f = 0 ∧ k = 30)) → gi w f k = gi v f k := fun f k h => by rw [K2.2.2.1 f k h.1, eu, gi_si, if_neg h.2, gi_sl]
  have hA : ∀ k, (¬ k = 10 ∧ ¬ k = 17 ∧ ¬ k = 18 ∧ ¬ k = 19 ∧ ¬ k = 69 ∧ ¬ k = 70 ∧ ¬ k = 72 ∧ ¬ k = 73 ∧ ¬ k = 74) → ga w k = ga st k := fun k h => (f0 k (by omega) (by omega) (by omega) (by omega) (by omega)).trans (K1.2.2.2.1 k (by omega) (by omega) (by omega) (by omega))
  have hG : ∀ f k, (¬ (f = 41 ∧ k = 30) ∧ ¬ (f = 0 ∧ k = 30) ∧ ¬ (f = 3 ∧ k = 5) ∧ ¬ f = 12) → gi w f k = gi st f k := fun f k h => (i0 f k (by omega)).trans (K1.2.2.1 f k (by omega) (by omega))
  have hP : ∀ f k, gp w f k = gp st f k := fun f k => by rw [K2.2.1, eu, gp_si, gp_sl]; exact K1.2.1 f k
  have hBq : ∀ k, gb w k = gb st k := fun k => by rw [K2.1, eu, gb_si, gb_sl]; exact K1.1 k
  have h12 : gi w 12 (100 + 6 * nB) = gi st 12 (100 + 6 * nB) := by
    rw [i0 12 _ (by omega), ev]
    exact stA_12 nr nB (lnX nB nb ln) p (st, nl) _ (fun b hb9 => by omega) nB
  refine ⟨np, g, nF, fm, fz, sz, nr, td, nB, nb, ln, us, NSc (htS st nr ln p) nl nB, LIa_K hP hBq ha, LIp_K (hG _ _ (by omega)) (hG _ _ (by omega)) (hA _ (by omega)) (hA _ (by omega)) hp, LIf_K (hP _ _) (hG _ _ (by omega)) (hG _ _ (by omega)) (hBq _) (fun f _ => hG _ _ (by omega)) (fun f _ j _ _ => hA _ (by omega)) (hA _ (by omega)) (hA _ (by omega)) (hA _ (by omega)) (hA _ (by omega)) (hA _ (by omega)) hf,
    LIr_K (hG _ _ (by omega)) (hG _ _ (by omega)) (hA _ (by omega)) (hA _ (by omega)) (hA _ (by omega)) (hA _ (by omega)) (hA _ (by omega)) (hA _ (by omega)) (hA _ (by omega)) (hA _ (by omega)) hr, LIm_K (Nat.le_succ _) (hG _ _ (by omega)) (hG _ _ (by omega)) (hA _ (by omega)) (hA _ (by omega)) (hA _ (by omega)) (hA _ (by omega)) hm, LId_K (hP _ _) (hG _ _ (by omega)) (hG _ _ (by omega)) h12 (fun j _ _ => hA _ (by omega)) (hA _ (by omega)) (hA _ (by omega)) (hA _ (by omega)) hd,
    LIb_K (Nat.le_refl _) (Nat.le_succ _) (hG _ _ (by omega)) (hG _ _ (by omega)) (hBq _) (fun b _ f _ => hG _ _ (by omega)) (fun b _ j _ _ => hA _ (by omega)) (fun r _ _ => hA _ (by omega)) (fun i _ => by rw [hA 50 (by omega)]) hb, ?_⟩
  obtain ⟨m1, m2, m3, m4, m5⟩ := hn
  refine ⟨(NSc_le m1 nB).2, (i0 3 5 (by omega)).trans n1, n2, fun i hi => ⟨?_, ?_, ?_, ?_⟩, fun b hb9 => ?_⟩
  · rw [r2, f0 17 (by decide) (by decide) (by decide) (by decide) (by decide), c2]; exact NSu_e (fun k hk => (m4 k hk).1) nB i hi
  · rw [r3, f0 18 (by decide) (by decide) (by decide) (by decide) (by decide), c3]; exact NSu_e (fun k hk => (m4 k hk).2.1) nB i hi
  · rw [r4, f0 19 (by decide) (by decide) (by decide) (by decide) (by decide), c4]; exact NSu_e (fun k hk => (m4 k hk).2.2.1) nB i hi
  · rw [r2]; exact NSu_b (fun k hk => (m4 k hk).2.2.2) nB (Nat.le_refl _) i hi
  · rw [i0 12 _ (by omega), c5 b hb9, ntS_nts, r2, r3, nts_NS (by omega) nB hB30, ← ntS_nts, ← m5 b hb9]

set_option maxHeartbeats 1000000 in
theorem s_settle (l : Launch) (hl0 : l.stackTraces = false) (D : va_G) (cy : Nat → ClassId) (a0 : Int32) : SI l D cy LI yX7_settle cX7_settle 5 .int 9 4 24 [eIOB] yX8_settle cX8_settle 5 .int 4 [.int a0] := by
  intro t ad Ls st ht hI
  have hI9 := hI
  obtain ⟨np, g, nF, fm, fz, sz, nr, td, nB, nb, ln, us, nl, ha, hp, hf, hr, hm, hd, hb, hn⟩ := hI
  have hB30 := ha.2.2.2.2.2.2.2.2.1
  have hBL := ha.2.2.2.1
  have hx7 := lnX_7 hd hb
  have hx8 := lnX_8 (nb := nb) hb
  have hk8 := knX_8 (nb := nb) hb
  refine ⟨(kPlace a0), _, c_X7_settle l hl0 D cy ad Ls st ha.1 nr hr.1 hr.2.1 nB hB30 hb.2.2.1 hBL (lnX nB nb ln) hx7 nl hn.1 hn.2.1 a0, fun hK => ⟨_, c_X8_settle l D cy ad Ls st ha.2.2.1 nr hr.1 hr.2.2.1 nB hB30 hb.2.1 (lnX nB nb ln) hx8 (knX st) hk8 nl hn.1 hn.2.2.1 (nI td) hm.2.2.1 a0, fun rb u hpb => ?_⟩, fun r u hpost => ?_⟩
  · rcases hpb with ⟨h1, h2, h3⟩ | ⟨h1, _⟩
    · subst h3; exact ⟨by rw [k_ePlace a0]; rfl, LI_thr hI9 _⟩
    · exact absurd ((k_ePlace a0).trans h1) hK
  · obtain ⟨hK, hr0, hu⟩ := hpost
    rw [stA_30 nr nB hB30] at hr0 hu
    have K1 : stK st u := by rw [hu]; exact stA_K nr nB (lnX nB nb ln) a0 (st, nl) nB
    refine ⟨hK, fun u9 hu9 => ?_⟩
    have hK9 := hK; rw [k_ePlace a0] at hK9
    have q30 : ∀ f {y : Int32}, (¬ f = 12) → gi st f 30 = y → gi u9 f 30 = y := fun f y h1 h2 => by rw [hu9, gi_sl]; exact (K1.2.2.1 f 30 (by omega) h1).trans h2
    have qA : ∀ k, 47 < k → ga u9 k = ga st k := fun k hk => by rw [hu9, ga_sl]; exact K1.2.2.2.1 k (by omega) (by omega) (by omega) (by omega)
    refine ⟨_, c_X8_settle l D cy ad Ls u9 ha.2.2.1 nr hr.1 (q30 17 (by omega) hr.2.2.1) nB hB30 (q30 28 (by omega) hb.2.1) (lnX nB nb ln) (fun b hb9 => by rw [qA 61 (by omega)]; exact hx8 b hb9) (knX st) (fun b hb9 => by rw [qA 64 (by omega)]; exact hk8 b hb9) nl hn.1 (q30 41 (by omega) hn.2.2.1) (nI td) (q30 16 (by omega) hm.2.2.1) a0, fun rb u2 h2 => ?_⟩
    rcases h2 with ⟨h1, _⟩ | ⟨_, h2⟩
    · exact absurd hK9 h1
    obtain ⟨e1, e2⟩ := h2
    obtain ⟨c1, _⟩ := cl_st (nb := nb) (nl := nl) hr hb hB30 a0 nB (Nat.le_refl _)
    obtain ⟨_, r1, _⟩ := rf_st (u := si u9 0 30 (nI 0)) (nb := nb) hr hb hn hB30 a0 (nI td) (fun k hk => by rw [ga_si]; exact qA k hk) nB (Nat.le_refl _)
    have K2 : mKp (si u9 0 30 (nI 0)) u2 := by rw [e2]; exact msA_K nr (knX st) (lnX nB nb ln) (nI td) a0 (si u9 0 30 (nI 0), nl, 0) nB
    refine ⟨by rw [K2.2.2.1 0 30 (by omega), gi_si, if_pos ⟨rfl, rfl⟩], ?_, ?_, ?_⟩
    · rw [e1, hr0, c1, nI_sub (NSc_le hn.1 nB).1, ← r1, Nat.add_sub_cancel]
    · rw [K2.2.2.2.2, gl_si, hu9, gl_sl, if_pos ⟨rfl, rfl⟩]
    · exact settle_LI ha hp hf hr hm hd hb hn a0 r.toInt64 hu (by rw [← hu9]) e2
