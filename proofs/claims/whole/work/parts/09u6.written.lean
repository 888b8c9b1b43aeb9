/-! ===== written, length ===== -/
theorem WD_of {st u : XS} {t : Nat} {Ls : List Nat} {g nF : Nat} {fm fz sz : Nat → Nat} {nr nB : Nat} {ln : Nat → Nat} {us : Nat → Option Nat} (ha : LIa Ls nB nF st) (hf : LIf st g nF fm fz sz) (hr : LIr st nr) (hb : LIb st nr t nB ln us) (ht : t ≤ 1000) {b j : Nat} (hb9 : b < nB) (hj : j < nF) (hK : ∀ k, 12 < k → ga u k = ga st k) (wn : Int32) : WD u (nI b) (nI j) wn (wrtS st b (ln b) (fm j) (fz j) 1000000 wn).2.2.2.2 := by
  have hB30 : nB ≤ 30 := ha.2.2.2.2.2.2.2.2.1
  have hF6 : nF ≤ 6 := ha.2.2.2.2.2.2.2.2.2
  have hB9 := hb.2.2.2.1 b hb9
  obtain ⟨f1, f2, f3, f4, f5, f6⟩ := hf.2.2.2.2.2.1 j hj
  have e : ∀ k, 12 < k → ∀ bs, wRo u k bs = wRo st k bs := fun k hk bs => by unfold wRo; rw [hK k hk]
  obtain ⟨N, x1, o1, lo1, h1, h2⟩ := f6 (wRo u 35 (160 * j)) (wRo u 36 (160 * j)) (wRo u 37 (160 * j)) (wRo u 38 (160 * j)) (fun i _ => by rw [e 35 (by decide), e 36 (by decide), e 37 (by decide), e 38 (by decide)]; exact ⟨rfl, rfl, rfl, rfl⟩) (numS st b (ln b)) (mnmS u b (ln b) (fun k => us (6 * b + k))) (ln b) wn (gi u 46 30) (ga st 12) 1000000 rfl hB9.1 hB9.2.1 (fun o x ho hx => by
    obtain ⟨q, q1, q2⟩ := num_N hr hB9 (by omega) ht x (oI o) (by
      cases o with
      | none => exact Or.inl rfl
      | some i => exact Or.inr ⟨i, ho i rfl, rfl⟩)
    exact ⟨q, q1, (num_mn (fun k hk => hK k (by omega)) hB9 o ho x hx).trans q2, q2⟩)
  refine ⟨b, ln b, fun k => us (6 * b + k), j, sz j, N, o1, lo1, rfl, by omega, hB9.2.1, by rw [hK 61 (by decide)]; exact hB9.2.2.2.1, fun k hk => ?_, rfl, by omega, by rw [hK 34 (by decide)]; exact f4, f5, ?_⟩
  · rw [hK 67 (by decide)]
    exact hb.2.2.2.2 (6 * b + k) (by omega)
  · unfold wrtS; rw [h2]; exact h1
theorem LI_W {st u2 : XS} {t : Nat} {Ls : List Nat} (hI : LI t Ls st) (w : WS) (p a : Int32) (v : Int64) (y : MW) (e : u2 = wwS (si (si (sl (wrS (si st 2 3 p) w) 0 90 v) 0 30 (nI 0)) 48 30 a) y) : LI (t + 1) Ls u2 := by
  obtain ⟨dg, ln, lf, sm, c, kp⟩ := w
  obtain ⟨y1, y2, y3, y4, y5, y6⟩ := y
  subst e
  refine LI_F hI (fun f k h => ?_) (fun k h => ?_) (fun f k => rfl) (fun k => rfl)
  · rw [gi_ww, if_neg (by omega), if_neg (by omega), if_neg (by omega), if_neg (by omega), if_neg (by omega), gi_si, if_neg (by omega), gi_si, if_neg (by omega), gi_sl, wr_o _ _ _ _ _ _ _ (Or.inl h.1), gi_si, if_neg (by omega)]
  · rw [ga_ww, ga_si, ga_si, ga_sl, wr_ga _ _ _ _ _ _ _ h, ga_si]
theorem wrt_ch (st : XS) (b n g gn M : Nat) (wn : Int32) : chr (wrtS st b n g gn M wn).2.2.2.2.2 = (wrtS st b n g gn M wn).2.2.2.2.2 := by
  obtain ⟨q5, h5, e5⟩ := runS_ch (ga st (300 + 4 * g + 1)) (ga st (300 + 4 * g + 2)) (ga st (300 + 4 * g + 3)) (numS st b n) n wn (nI gn) M (nI 0, ga st 12, -1, 0, 0, nI 0, nI 32) (show chK (nI 32) from ⟨32, by decide, rfl⟩)
  rw [show (wrtS st b n g gn M wn).2.2.2.2.2 = nI q5 from e5]
  exact nI_chr h5
theorem wr_gl0 (st : XS) (w : WS) : gl (wrS st w) 0 90 = gl st 0 90 := by
  obtain ⟨dg, ln, lf, sm, c, kp⟩ := w
  rfl

set_option maxHeartbeats 1000000 in
theorem s_written (l : Launch) (hl0 : l.stackTraces = false) (D : va_G) (cy : Nat → ClassId) (a0 : Int32) (a1 : Int32) (a2 : Int32) : SI l D cy LI yX7_written cX7_written 6 .char 14 4 24 [eIOB] yX8_written cX8_written 4 .char 7 [.int a0, .int a1, .int a2] := by
  intro t ad Ls st ht hI
  have hI9 := hI
  obtain ⟨np, g, nF, fm, fz, sz, nr, td, nB, nb, ln, us, nl, ha, hp, hf, hr, hm, hd, hb, hn⟩ := hI
  have hB30 := ha.2.2.2.2.2.2.2.2.1
  have hBL := ha.2.2.2.1
  have hx7 := lnX_7 hd hb
  have hx8 := lnX_8 (nb := nb) hb
  have hk8 := knX_8 (nb := nb) hb
  have hF6 : nF ≤ 6 := ha.2.2.2.2.2.2.2.2.2
  have hFm : ∀ j, j < nF → fm j < 40 ∧ (∀ i, i < 4 → 300 + 4 * fm j + i ∈ Ls) ∧ gi st 3 (300 + 4 * fm j) = nI (fz j) := fun j hj => by
    obtain ⟨f1, f2, f3, _⟩ := hf.2.2.2.2.2.1 j hj
    exact ⟨by omega, fun i hi => ha.2.2.2.2.2.1 (fm j) f1 i hi, f3⟩
  have hnum : ∀ b, b < nB → 0 < lnX nB nb ln b ∧ ∀ name idx, lnOk (lnX nB nb ln b) idx → numS st b (lnX nB nb ln b) name idx = nI (numS st b (lnX nB nb ln b) name idx).toNatClampNeg := fun b hb9 => by
    rw [lnX_lt hb9]
    exact ⟨(hb.2.2.2.1 b hb9).1, fun name idx hi => N31_c (num_N hr (hb.2.2.2.1 b hb9) (by omega) (by omega) name idx hi)⟩
  refine ⟨(kWrit nB nF a0 a1 a2), _, c_X7_written l hl0 D cy ad Ls st ha.1 nB hB30 hb.2.2.1 hBL (lnX nB nb ln) hx7 nF hF6 fm fz hf.2.2.2.2.1 hFm hnum 1000000 rfl a0 a1 a2, fun hK => ⟨_, c_X8_written l D cy ad Ls st ha.2.2.1 nB hb.2.1 nF hf.2.2.2.1 a0 a1 a2 (nI 0, nI 0) (fun q => absurd ((k_eWrit hB30 hF6 a0 a1 a2).trans q) hK), fun rb u hpb => ?_⟩, fun r u hpost => ?_⟩
  · rcases hpb with ⟨h1, h2, h3⟩ | ⟨h1, _⟩
    · subst h3; exact ⟨by rw [k_eWrit hB30 hF6 a0 a1 a2]; rfl, LI_thr hI9 _⟩
    · exact absurd ((k_eWrit hB30 hF6 a0 a1 a2).trans h1) hK
  · obtain ⟨hK, b, j, hb9, eb, hj, ej, hr0, hu⟩ := hpost
    rw [lnX_lt hb9] at hr0 hu
    subst hu
    refine ⟨hK, fun u9 hu9 => ?_⟩
    have hK9 := hK; rw [k_eWrit hB30 hF6 a0 a1 a2] at hK9
    have hK9u : ∀ k, 12 < k → ga u9 k = ga st k := fun k hk => by
      obtain ⟨w, ew⟩ : ∃ w, w = wrtS st b (ln b) (fm j) (fz j) 1000000 (a2) := ⟨_, rfl⟩
      rw [← ew] at hu9
      obtain ⟨dg, ln9, lf, sm, c, kp⟩ := w
      rw [hu9, ga_sl, wr_ga _ _ _ _ _ _ _ (by omega), ga_si]
    have g9 : ∀ f, gi u9 f 30 = gi st f 30 := fun f => by
      obtain ⟨w, ew⟩ : ∃ w, w = wrtS st b (ln b) (fm j) (fz j) 1000000 (a2) := ⟨_, rfl⟩
      rw [← ew] at hu9
      obtain ⟨dg, ln9, lf, sm, c, kp⟩ := w
      rw [hu9, gi_sl, wr_o _ _ _ _ _ _ _ (Or.inl (by omega)), gi_si, if_neg (by omega)]
    refine ⟨_, c_X8_written l D cy ad Ls u9 ha.2.2.1 nB ((g9 28).trans hb.2.1) nF ((g9 3).trans hf.2.2.2.1) a0 a1 a2 (wrtS st b (ln b) (fm j) (fz j) 1000000 (a2)).2.2.2.2 (fun _ => by rw [eb, ej]; exact WD_of ha hf hr hb (by omega) hb9 hj hK9u _), fun rb u2 h2 => ?_⟩
    rcases h2 with ⟨h1, _⟩ | ⟨_, h2⟩
    · exact absurd hK9 h1
    obtain ⟨e1, y, e2⟩ := h2
    refine ⟨?_, ?_, ?_, ?_⟩
    · obtain ⟨y1, y2, y3, y4, y5, y6⟩ := y
      rw [e2, gi_wwo (by omega), gi_si, if_neg (by omega), gi_si, if_pos ⟨rfl, rfl⟩]
    · rw [e1, hr0]; exact wrt_ch ..
    · obtain ⟨y1, y2, y3, y4, y5, y6⟩ := y
      rw [e2, gl_ww, if_neg (by omega), gl_si, gl_si, hu9, gl_sl, if_pos ⟨rfl, rfl⟩]
    · exact LI_W hI9 (wrtS st b (ln b) (fm j) (fz j) 1000000 (a2)) _ _ _ y (by rw [e2, hu9])

set_option maxHeartbeats 1000000 in
theorem s_length (l : Launch) (hl0 : l.stackTraces = false) (D : va_G) (cy : Nat → ClassId) (a0 : Int32) (a1 : Int32) : SI l D cy LI yX7_length cX7_length 5 .int 14 4 24 [eIOB] yX8_length cX8_length 3 .int 7 [.int a0, .int a1] := by
  intro t ad Ls st ht hI
  have hI9 := hI
  obtain ⟨np, g, nF, fm, fz, sz, nr, td, nB, nb, ln, us, nl, ha, hp, hf, hr, hm, hd, hb, hn⟩ := hI
  have hB30 := ha.2.2.2.2.2.2.2.2.1
  have hBL := ha.2.2.2.1
  have hx7 := lnX_7 hd hb
  have hx8 := lnX_8 (nb := nb) hb
  have hk8 := knX_8 (nb := nb) hb
  have hF6 : nF ≤ 6 := ha.2.2.2.2.2.2.2.2.2
  have hFm : ∀ j, j < nF → fm j < 40 ∧ (∀ i, i < 4 → 300 + 4 * fm j + i ∈ Ls) ∧ gi st 3 (300 + 4 * fm j) = nI (fz j) := fun j hj => by
    obtain ⟨f1, f2, f3, _⟩ := hf.2.2.2.2.2.1 j hj
    exact ⟨by omega, fun i hi => ha.2.2.2.2.2.1 (fm j) f1 i hi, f3⟩
  have hnum : ∀ b, b < nB → 0 < lnX nB nb ln b ∧ ∀ name idx, lnOk (lnX nB nb ln b) idx → numS st b (lnX nB nb ln b) name idx = nI (numS st b (lnX nB nb ln b) name idx).toNatClampNeg := fun b hb9 => by
    rw [lnX_lt hb9]
    exact ⟨(hb.2.2.2.1 b hb9).1, fun name idx hi => N31_c (num_N hr (hb.2.2.2.1 b hb9) (by omega) (by omega) name idx hi)⟩
  refine ⟨(kLen nB nF a0 a1), _, c_X7_length l hl0 D cy ad Ls st ha.1 nB hB30 hb.2.2.1 hBL (lnX nB nb ln) hx7 nF hF6 fm fz hf.2.2.2.2.1 hFm hnum 1000000 rfl a0 a1, fun hK => ⟨_, c_X8_length l D cy ad Ls st ha.2.2.1 nB hb.2.1 nF hf.2.2.2.1 a0 a1 (nI 0, nI 0) (fun q => absurd ((k_eLen hB30 hF6 a0 a1).trans q) hK), fun rb u hpb => ?_⟩, fun r u hpost => ?_⟩
  · rcases hpb with ⟨h1, h2, h3⟩ | ⟨h1, _⟩
    · subst h3; exact ⟨by rw [k_eLen hB30 hF6 a0 a1]; rfl, LI_thr hI9 _⟩
    · exact absurd ((k_eLen hB30 hF6 a0 a1).trans h1) hK
  · obtain ⟨hK, b, j, hb9, eb, hj, ej, hr0, hu⟩ := hpost
    rw [lnX_lt hb9] at hr0 hu
    subst hu
    refine ⟨hK, fun u9 hu9 => ?_⟩
    have hK9 := hK; rw [k_eLen hB30 hF6 a0 a1] at hK9
    have hK9u : ∀ k, 12 < k → ga u9 k = ga st k := fun k hk => by
      obtain ⟨w, ew⟩ : ∃ w, w = wrtS st b (ln b) (fm j) (fz j) 1000000 (-1) := ⟨_, rfl⟩
      rw [← ew] at hu9
      obtain ⟨dg, ln9, lf, sm, c, kp⟩ := w
      rw [hu9, ga_sl, wr_ga _ _ _ _ _ _ _ (by omega), ga_si]
    have g9 : ∀ f, gi u9 f 30 = gi st f 30 := fun f => by
      obtain ⟨w, ew⟩ : ∃ w, w = wrtS st b (ln b) (fm j) (fz j) 1000000 (-1) := ⟨_, rfl⟩
      rw [← ew] at hu9
      obtain ⟨dg, ln9, lf, sm, c, kp⟩ := w
      rw [hu9, gi_sl, wr_o _ _ _ _ _ _ _ (Or.inl (by omega)), gi_si, if_neg (by omega)]
    refine ⟨_, c_X8_length l D cy ad Ls u9 ha.2.2.1 nB ((g9 28).trans hb.2.1) nF ((g9 3).trans hf.2.2.2.1) a0 a1 (wrtS st b (ln b) (fm j) (fz j) 1000000 (-1)).2.2.2.2 (fun _ => by rw [eb, ej]; exact WD_of ha hf hr hb (by omega) hb9 hj hK9u _), fun rb u2 h2 => ?_⟩
    rcases h2 with ⟨h1, _⟩ | ⟨_, h2⟩
    · exact absurd hK9 h1
    obtain ⟨e1, y, e2⟩ := h2
    refine ⟨?_, ?_, ?_, ?_⟩
    · obtain ⟨y1, y2, y3, y4, y5, y6⟩ := y
      rw [e2, gi_wwo (by omega), gi_si, if_neg (by omega), gi_si, if_pos ⟨rfl, rfl⟩]
    · rw [e1, hr0]
    · obtain ⟨y1, y2, y3, y4, y5, y6⟩ := y
      rw [e2, gl_ww, if_neg (by omega), gl_si, gl_si, hu9, gl_sl, if_pos ⟨rfl, rfl⟩]
    · exact LI_W hI9 (wrtS st b (ln b) (fm j) (fz j) 1000000 (-1)) _ _ _ y (by rw [e2, hu9])
