/-! ===== template ===== -/
theorem neg_f : ∀ f, f < 200 → (-1 : Int32) - nI f < 0 := by decide +kernel
/-- the class behind a template, all but its forms' row -/
def TmU (st u : XS) (g nF : Nat) (R : RS) : Prop := (∀ f k, (¬ k = 1 ∧ k < 300 ∧ ¬ (f = 1 ∧ k = 2) ∧ ¬ (f = 3 ∧ k = 0)) → gi u f k = gi st f k) ∧ (∀ k, k < 300 → ga u k = ga st k) ∧ gp u 8 0 = gp st 8 0 ∧ gb u 9 = gb st 9 ∧ gi u 1 2 = nI 0 ∧
  (∀ f, f ≤ nF → ¬ f = g → gi u 3 (300 + 4 * f) = gi st 3 (300 + 4 * f)) ∧ (∀ f, f ≤ nF → ¬ f = g → ∀ i, 1 ≤ i → i < 4 → ga u (300 + 4 * f + i) = ga st (300 + 4 * f + i)) ∧ gi u 3 (300 + 4 * g) = R.2.2.1 ∧ ga u (300 + 4 * g + 1) = R.2.2.2.1 ∧ ga u (300 + 4 * g + 2) = R.2.2.2.2.1 ∧ ga u (300 + 4 * g + 3) = R.2.2.2.2.2
theorem tmU_rd (st : XS) (g nF np n5 : Nat) : TmU st (rdU st g np n5) g nF (rdR st g np n5).2 := by
  unfold rdU
  refine ⟨fun f k h => ?_, fun k h => ?_, rfl, rfl, by rw [gi_si, if_pos ⟨rfl, rfl⟩], fun f h1 h2 => ?_, fun f h1 h2 i h3 h4 => ?_, ?_, ?_, ?_, ?_⟩
  · rw [gi_si, if_neg h.2.2.1]; exact rd_gi ⟨h.1, by omega⟩
  · rw [ga_si]; exact rd_ga (by omega)
  · rw [gi_si, if_neg (by omega)]; exact rd_gi ⟨by omega, by omega⟩
  · rw [ga_si]; exact rd_ga (by omega)
  · rw [gi_si, if_neg (by omega)]; exact rd_gz
  · rw [ga_si]; exact rd_g3.1
  · rw [ga_si]; exact rd_g3.2.1
  · rw [ga_si]; exact rd_g3.2.2
theorem tmU_S1 {st u : XS} {g nF : Nat} {R : RS} (h : TmU st u g nF R) (o : Option Nat) (b : Nat → Option Nat) : TmU st (sb (sp u 1 1 o) 6 b) g nF R := h
theorem tmU_S2 {st u : XS} {g nF : Nat} {R : RS} (h : TmU st u g nF R) (hg : g ≤ nF) (o : Option Nat) (b : Nat → Option Nat) (v : Int32) : TmU st (si (sb (sp (stF0 u (nF + 1)) 1 1 o) 6 b) 3 0 v) g nF R := by
  obtain ⟨h1, h2, h3, h4, h5, h6, h7, h8, h9, h10, h11⟩ := h
  have hG : ∀ f k, ¬ (f = 3 ∧ k = 0) → ¬ k = 300 + 4 * (nF + 1) → gi (si (sb (sp (stF0 u (nF + 1)) 1 1 o) 6 b) 3 0 v) f k = gi u f k := fun f k q1 q2 => by
    rw [gi_si, if_neg q1]; exact if_neg q2
  have hA : ∀ k, ¬ (300 + 4 * (nF + 1) ≤ k ∧ k < 300 + 4 * (nF + 1) + 4) → ga (si (sb (sp (stF0 u (nF + 1)) 1 1 o) 6 b) 3 0 v) k = ga u k := fun k q => if_neg q
  refine ⟨fun f k q => (hG f k (by omega) (by omega)).trans (h1 f k q), fun k q => (hA k (by omega)).trans (h2 k q), h3, h4, (hG _ _ (by omega) (by omega)).trans h5, fun f q1 q2 => (hG _ _ (by omega) (by omega)).trans (h6 f q1 q2), fun f q1 q2 i q3 q4 => (hA _ (by omega)).trans (h7 f q1 q2 i q3 q4), (hG _ _ (by omega) (by omega)).trans h8, (hA _ (by omega)).trans h9, (hA _ (by omega)).trans h10, (hA _ (by omega)).trans h11⟩
section TF
variable {st u w : XS} {t : Nat} {Ls Ls2 : List Nat} {np g nF : Nat} {fm fz sz : Nat → Nat} {nr td nB nb : Nat} {ln : Nat → Nat} {us : Nat → Option Nat} {nl : Nat} {R : RS} {v : Int64} {X : MR}
theorem tm_F (ha : LIa Ls nB nF st) (hf : LIf st g nF fm fz sz) (hr : LIr st nr) (hm : LIm st t td) (hd : LId st nB nb) (hb : LIb st nr t nB ln us) (hn : LIn st nB nl) (hu : TmU st u g nF R) (hp : ∀ f k, gp u f k = gp st f k) (hbq : ∀ k, gb u k = gb st k) (h3 : gi u 3 0 = gi st 3 0)
    (hX : AgO 960 160 (ga st 36) (ga st 37) (ga st 38) X.2.2.2.2.2.2.2.1 X.2.2.2.2.2.2.2.2.1 X.2.2.2.2.2.2.2.2.2) (hw : w = si (rqS (si (sl u 0 90 v) 0 30 (nI 0)) X) 1 30 (nI 0)) : LI (t + 1) Ls w := by
  obtain ⟨u1, u2, u3, u4, u5, u6, u7, u8, u9, u10, u11⟩ := hu
  have g1 : ∀ f k, ¬ (f = 1 ∧ k = 30) → ¬ (f = 0 ∧ k = 30) → ¬ (8 < f ∧ f < 13 ∧ k = 30) → gi w f k = gi u f k := fun f k q1 q2 q3 => by
    rw [hw, gi_si, if_neg q1]
    by_cases e : k = 30
    · rw [rq_gi (by omega), gi_si, if_neg q2, gi_sl]
    · rw [rq_gi2 e, gi_si, if_neg q2, gi_sl]
  have a1 : ∀ k, ¬ (35 < k ∧ k < 39 ∨ 42 < k ∧ k < 46) → ga w k = ga u k := fun k q => by rw [hw, ga_si, rq_ga q, ga_si, ga_sl]
  have p1 : ∀ f k, gp w f k = gp u f k := fun f k => by rw [hw]; rfl
  have b1 : ∀ k, gb w k = gb u k := fun k => by rw [hw]; rfl
  have r36 := rq_36 (st := si (sl u 0 90 v) 0 30 (nI 0)) (X := X)
  have K : TmK st w := ⟨fun f k q => (g1 f k (by omega) (by omega) (by omega)).trans (u1 f k (by omega)), fun k q => (a1 k (by omega)).trans (u2 k q.1), (p1 8 0).trans u3, (b1 9).trans u4⟩
  obtain ⟨R1, R2, R3, R4, R5⟩ := tm_rest K ha.2.2.2.2.2.2.2.2.1 hr hm hd hb hn
  refine ⟨0, g, nF, fm, fz, sz, nr, td, nB, nb, ln, us, nl, LIa_K (fun f k => (p1 f k).trans (hp f k)) (fun k => (b1 k).trans (hbq k)) ha, ⟨Nat.zero_le _, (g1 1 2 (by omega) (by omega) (by omega)).trans u5, by rw [hw, gi_si, if_pos ⟨rfl, rfl⟩], fun i hi => absurd hi (Nat.not_lt_zero _)⟩, ?_, R1, R2, R3, R4, R5⟩
  refine tm_LIf0 hf ha.2.2.2.2.2.2.2.2.2 ((p1 1 1).trans (hp 1 1)) ((g1 3 0 (by omega) (by omega) (by omega)).trans h3) ((g1 3 30 (by omega) (by omega) (by omega)).trans (u1 3 30 (by omega))) ((b1 6).trans (hbq 6)) (fun f q1 q2 => (g1 _ _ (by omega) (by omega) (by omega)).trans (u6 f q1 q2)) (fun f q1 q2 i q3 q4 => (a1 _ (by omega)).trans (u7 f q1 q2 i q3 q4)) ((a1 34 (by omega)).trans (u2 34 (by omega))) (fun z hz i hi => ?_)
  obtain ⟨x1, x2, x3⟩ := hX (160 * z + i) (Or.inl (by omega))
  refine ⟨by rw [a1 35 (by omega), u2 35 (by omega)], ?_, ?_, ?_⟩
  · rw [hw, ga_si, r36.1]; exact x1
  · rw [hw, ga_si, r36.2.1]; exact x2
  · rw [hw, ga_si, r36.2.2]; exact x3
theorem tm_S (ha : LIa Ls nB nF st) (hpg : LIp st np) (hf : LIf st g nF fm fz sz) (hr : LIr st nr) (hm : LIm st t td) (hd : LId st nB nb) (hb : LIb st nr t nB ln us) (hn : LIn st nB nl) (hu : TmU st u g nF R) {j g2 nF2 i2 m : Nat} (hc : (j < nF ∧ nF2 = nF ∧ g2 = fm j) ∨ (j = nF ∧ nF2 = nF + 1 ∧ g2 = nF + 1)) (hF2 : nF2 ≤ 6) (hi2 : i2 ≤ np)
    (h11 : gp u 1 1 = some (300 + 4 * g2)) (h3 : gi u 3 0 = nI nF2) (h6 : ∀ z, gb u 6 z = if z = j then some (300 + 4 * g) else gb st 6 z)
    (hX : AgO (160 * j) 160 X.2.2.2.2.2.2.2.1 X.2.2.2.2.2.2.2.2.1 X.2.2.2.2.2.2.2.2.2 X.2.2.2.2.2.2.2.1 X.2.2.2.2.2.2.2.2.1 X.2.2.2.2.2.2.2.2.2 ∧ ∀ p, p < 960 → (p < 160 * j ∨ 160 * j + 160 ≤ p) → X.2.2.2.2.2.2.2.1 p = ga st 36 p ∧ X.2.2.2.2.2.2.2.2.1 p = ga st 37 p ∧ X.2.2.2.2.2.2.2.2.2 p = ga st 38 p)
    (hz : R.2.2.1 = nI i2) (hS : Seg R.2.2.2.1 R.2.2.2.2.1 R.2.2.2.2.2 (ga st 32) (fun p => X.2.2.2.2.2.2.2.1 (160 * j + p)) (fun p => X.2.2.2.2.2.2.2.2.1 (160 * j + p)) (fun p => X.2.2.2.2.2.2.2.2.2 (160 * j + p)) m false 0 0 i2 np)
    (hw : w = mtZ (rqS (si (sl u 0 90 v) 0 30 (nI 0)) X) (sl u 0 90 v) np nF j) (hLa : LIa Ls2 nB nF2 w) : LI (t + 1) Ls2 w := by
  obtain ⟨u1, u2, u3, u4, u5, u6, u7, u8, u9, u10, u11⟩ := hu
  have g1 : ∀ f k, ¬ (f = 1 ∧ k = 30) → ¬ (f = 3 ∧ k = 30) → ¬ (f = 0 ∧ k = 30) → ¬ (8 < f ∧ f < 13 ∧ k = 30) → gi w f k = gi u f k := fun f k q1 q2 q3 q4 => by
    rw [hw]; unfold mtZ
    rw [gi_si, if_neg q1, gi_si, if_neg q2, gi_sa, gi_sa]
    by_cases e : k = 30
    · rw [rq_gi (by omega), gi_si, if_neg q3, gi_sl]
    · rw [rq_gi2 e, gi_si, if_neg q3, gi_sl]
  have a1 : ∀ k, ¬ k = 34 → ¬ k = 35 → ¬ (35 < k ∧ k < 39 ∨ 42 < k ∧ k < 46) → ga w k = ga u k := fun k q1 q2 q => by
    rw [hw]; unfold mtZ
    rw [ga_si, ga_si, ga_sa, if_neg q1, ga_sa, if_neg q2, rq_ga q, ga_si, ga_sl]
  have p1 : ∀ f k, gp w f k = gp u f k := fun f k => by rw [hw]; rfl
  have b1 : ∀ k, gb w k = gb u k := fun k => by rw [hw]; rfl
  have r36 := rq_36 (st := si (sl u 0 90 v) 0 30 (nI 0)) (X := X)
  have w34 : ga w 34 = upd (ga st 34) j (nI np) := by
    rw [hw]; unfold mtZ
    rw [ga_si, ga_si, ga_sa, if_pos rfl, ga_sl, u2 34 (by omega)]
  have w35 : ga w 35 = cpS (ga st 35) (ga st 32) (160 * j) np := by
    rw [hw]; unfold mtZ
    rw [ga_si, ga_si, ga_sa, if_neg (by decide), ga_sa, if_pos rfl, ga_sl, ga_sl, u2 35 (by omega), u2 32 (by omega)]
  have w36 : ga w 36 = X.2.2.2.2.2.2.2.1 := by
    rw [hw]; unfold mtZ
    rw [ga_si, ga_si, ga_sa, if_neg (by decide), ga_sa, if_neg (by decide)]; exact r36.1
  have w37 : ga w 37 = X.2.2.2.2.2.2.2.2.1 := by
    rw [hw]; unfold mtZ
    rw [ga_si, ga_si, ga_sa, if_neg (by decide), ga_sa, if_neg (by decide)]; exact r36.2.1
  have w38 : ga w 38 = X.2.2.2.2.2.2.2.2.2 := by
    rw [hw]; unfold mtZ
    rw [ga_si, ga_si, ga_sa, if_neg (by decide), ga_sa, if_neg (by decide)]; exact r36.2.2
  have w330 : gi w 3 30 = nI nF2 := by
    rw [hw]; unfold mtZ
    rw [gi_si, if_neg (by decide), gi_si, if_pos ⟨rfl, rfl⟩]
    rcases hc with ⟨q1, q2, _⟩ | ⟨q1, q2, _⟩
    · rw [if_neg (by omega), q2]; rfl
    · rw [if_pos q1, q2]
  have w130 : gi w 1 30 = nI 0 := by
    rw [hw]; unfold mtZ
    rw [gi_si, if_pos ⟨rfl, rfl⟩]
  have hnp := hpg.1
  have hj6 : j < 6 := by rcases hc with ⟨q1, q2, _⟩ | ⟨q1, q2, _⟩ <;> omega
  have K : TmK st w := ⟨fun f k q => (g1 f k (by omega) (by omega) (by omega) (by omega)).trans (u1 f k (by omega)), fun k q => (a1 k (by omega) (by omega) (by omega)).trans (u2 k q.1), (p1 8 0).trans u3, (b1 9).trans u4⟩
  obtain ⟨R1, R2, R3, R4, R5⟩ := tm_rest K ha.2.2.2.2.2.2.2.2.1 hr hm hd hb hn
  refine ⟨0, g2, nF2, (fun z => if z = j then g else fm z), (fun z => if z = j then i2 else fz z), (fun z => if z = j then np else sz z), nr, td, nB, nb, ln, us, nl, hLa, ⟨Nat.zero_le _, (g1 1 2 (by omega) (by omega) (by omega) (by omega)).trans u5, w130, fun i hi => absurd hi (Nat.not_lt_zero _)⟩, ?_, R1, R2, R3, R4, R5⟩
  refine tm_LIf hf hc hF2 ((p1 1 1).trans h11) ((g1 3 0 (by omega) (by omega) (by omega) (by omega)).trans h3) w330 (fun z => by rw [b1]; exact h6 z) (fun f q1 q2 => (g1 _ _ (by omega) (by omega) (by omega) (by omega)).trans (u6 f q1 q2)) (fun f q1 q2 i q3 q4 => (a1 _ (by omega) (by omega) (by omega)).trans (u7 f q1 q2 i q3 q4)) w34 (fun z hz9 hzj i hi => ?_) ((g1 _ _ (by omega) (by omega) (by omega) (by omega)).trans (u8.trans hz)) hnp ?_
  · obtain ⟨x1, x2, x3⟩ := hX.2 (160 * z + i) (by omega) (by omega)
    refine ⟨?_, by rw [w36]; exact x1, by rw [w37]; exact x2, by rw [w38]; exact x3⟩
    rw [w35]; exact if_neg (by omega)
  · rw [a1 (300 + 4 * g + 1) (by omega) (by omega) (by omega), a1 (300 + 4 * g + 2) (by omega) (by omega) (by omega), a1 (300 + 4 * g + 3) (by omega) (by omega) (by omega), u9, u10, u11]
    have x35 : ∀ p, p < np → wRo w 35 (160 * j) p = ga st 32 p := fun p hp => by
      show ga w 35 (160 * j + p) = _
      rw [w35]; refine (if_pos ⟨by omega, by omega⟩).trans ?_
      rw [Nat.add_sub_cancel_left]
    refine FormOK_seg (m := m) (Seg_K m _ _ _ _ _ hS (fun k _ _ => ⟨rfl, rfl, rfl⟩) (fun p _ q => ⟨x35 p q, ?_, ?_, ?_⟩)) (by omega) ⟨hnp, fun p hp => ?_⟩
    · show ga w 36 (160 * j + p) = _; rw [w36]
    · show ga w 37 (160 * j + p) = _; rw [w37]
    · show ga w 38 (160 * j + p) = _; rw [w38]
    · obtain ⟨e1, c, c1, c2, c3⟩ := hpg.2.2.2 p hp
      exact ⟨c, c1, c2, by rw [x35 p hp, e1]; exact c3⟩
end TF
