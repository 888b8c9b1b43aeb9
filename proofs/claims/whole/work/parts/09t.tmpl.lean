/-! ===== template: what stays, the forms ===== -/
theorem xCl_LsF {u : XS} {Ls : List Nat} {g : Nat} (hg : g < 40) : ∀ k ∈ LsF g, (kd k < 9 → ∀ f, f < nfl (kd k) → (10 ≤ fcd (kd k) f → k + (fcd (kd k) f - 10) ∈ Ls ++ LsF g) ∧ (fcd (kd k) f = 2 → ∀ j, gp u f k = some j → j ∈ Ls ++ LsF g)) ∧ ((kd k = 22 ∨ kd k = 23) → ∀ i j, gb u k i = some j → j ∈ Ls ++ LsF g) := by
  intro k hk
  obtain ⟨j, hj, rfl⟩ := LsF_iff.mp hk
  rcases (show j = 0 ∨ j = 1 ∨ j = 2 ∨ j = 3 by omega) with rfl | rfl | rfl | rfl
  · rw [Nat.add_zero, kd_f0 hg]
    refine ⟨fun _ f hf => ⟨fun h => ?_, fun h => ?_⟩, fun h => by rcases h with h | h <;> cases h⟩
    · refine List.mem_append_right _ (LsF_mem ?_)
      rcases (show f = 0 ∨ f = 1 ∨ f = 2 ∨ f = 3 by have h9 : f < 4 := hf; omega) with rfl | rfl | rfl | rfl <;> decide
    · exfalso
      rcases (show f = 0 ∨ f = 1 ∨ f = 2 ∨ f = 3 by have h9 : f < 4 := hf; omega) with rfl | rfl | rfl | rfl <;> revert h <;> decide
  all_goals first | rw [kd_f1 hg] | rw [kd_f2 hg] | rw [kd_f3 hg]
  all_goals exact ⟨fun h => absurd h (by decide), fun h => absurd h (by decide)⟩
section RQ
variable {st : XS} {X : MR}
theorem rq_gi {F k : Nat} (h : ¬ (8 < F ∧ F < 13)) : gi (rqS st X) F k = gi st F k := by
  obtain ⟨a, f, d, q, al, bg, mi, mk, bo, ot⟩ := X
  exact gi_rmo h
theorem rq_gi2 {F k : Nat} (h : ¬ k = 30) : gi (rqS st X) F k = gi st F k := by
  obtain ⟨a, f, d, q, al, bg, mi, mk, bo, ot⟩ := X
  rw [gi_rm, if_neg (fun z => h z.2), if_neg (fun z => h z.2), if_neg (fun z => h z.2), if_neg (fun z => h z.2)]
theorem rq_ga {k : Nat} (h : ¬ (35 < k ∧ k < 39 ∨ 42 < k ∧ k < 46)) : ga (rqS st X) k = ga st k := by
  obtain ⟨a, f, d, q, al, bg, mi, mk, bo, ot⟩ := X
  exact ga_rmo h
theorem rq_36 : ga (rqS st X) 36 = X.2.2.2.2.2.2.2.1 ∧ ga (rqS st X) 37 = X.2.2.2.2.2.2.2.2.1 ∧ ga (rqS st X) 38 = X.2.2.2.2.2.2.2.2.2 := by
  obtain ⟨a, f, d, q, al, bg, mi, mk, bo, ot⟩ := X
  exact ⟨ga_rm36, ga_rm37, ga_rm38⟩
theorem rd_gi {g : Nat} {R : RS} {F k : Nat} (h : ¬ k = 1 ∧ ¬ (F = 3 ∧ k = 300 + 4 * g)) : gi (rdS st g R) F k = gi st F k := by
  obtain ⟨a, p, z, d, f, w⟩ := R
  exact gi_rd_o (fun q => h.1 q.2) (fun q => h.1 q.2) h.2
theorem rd_gz {g : Nat} {R : RS} : gi (rdS st g R) 3 (300 + 4 * g) = R.2.2.1 := by
  obtain ⟨a, p, z, d, f, w⟩ := R
  exact gi_rd_z
theorem rd_ga {g k : Nat} {R : RS} (h : ¬ (300 + 4 * g < k ∧ k < 300 + 4 * g + 4)) : ga (rdS st g R) k = ga st k := by
  obtain ⟨a, p, z, d, f, w⟩ := R
  rw [ga_rd, if_neg (by omega), if_neg (by omega), if_neg (by omega)]
theorem rd_g3 {g : Nat} {R : RS} : ga (rdS st g R) (300 + 4 * g + 1) = R.2.2.2.1 ∧ ga (rdS st g R) (300 + 4 * g + 2) = R.2.2.2.2.1 ∧ ga (rdS st g R) (300 + 4 * g + 3) = R.2.2.2.2.2 := by
  obtain ⟨a, p, z, d, f, w⟩ := R
  exact ⟨ga_rd_1, ga_rd_2, ga_rd_3⟩
end RQ
/-- what a template leaves alone -/
def TmK (st w : XS) : Prop := (∀ f k, (¬ k = 1 ∧ k < 300 ∧ ¬ (f = 1 ∧ k = 2) ∧ ¬ (k = 30 ∧ (f = 0 ∨ f = 1 ∨ f = 3 ∨ (8 < f ∧ f < 13))) ∧ ¬ (f = 3 ∧ k = 0)) → gi w f k = gi st f k) ∧ (∀ k, (k < 300 ∧ ¬ (33 < k ∧ k < 39) ∧ ¬ (42 < k ∧ k < 46)) → ga w k = ga st k) ∧ gp w 8 0 = gp st 8 0 ∧ gb w 9 = gb st 9
theorem tm_rest {st w : XS} {t nr td nB nb nl : Nat} {ln : Nat → Nat} {us : Nat → Option Nat} (h : TmK st w) (h30 : nB ≤ 30) (hr : LIr st nr) (hm : LIm st t td) (hd : LId st nB nb) (hb : LIb st nr t nB ln us) (hn : LIn st nB nl) : LIr w nr ∧ LIm w (t + 1) td ∧ LId w nB nb ∧ LIb w nr (t + 1) nB ln us ∧ LIn w nB nl := by
  obtain ⟨hG, hA, h8, h9⟩ := h
  exact ⟨LIr_K (hG _ _ (by omega)) (hG _ _ (by omega)) (hA _ (by omega)) (hA _ (by omega)) (hA _ (by omega)) (hA _ (by omega)) (hA _ (by omega)) (hA _ (by omega)) (hA _ (by omega)) (hA _ (by omega)) hr, LIm_K (Nat.le_succ _) (hG _ _ (by omega)) (hG _ _ (by omega)) (hA _ (by omega)) (hA _ (by omega)) (hA _ (by omega)) (hA _ (by omega)) hm, LId_K h8 (hG _ _ (by omega)) (hG _ _ (by omega)) (hG _ _ (by omega)) (fun j _ _ => hA _ (by omega)) (hA _ (by omega)) (hA _ (by omega)) (hA _ (by omega)) hd,
    LIb_K (Nat.le_refl _) (Nat.le_succ _) (hG _ _ (by omega)) (hG _ _ (by omega)) h9 (fun b _ f _ => hG _ _ (by omega)) (fun b _ j _ _ => hA _ (by omega)) (fun r _ _ => hA _ (by omega)) (fun i _ => by rw [hA 50 (by omega)]) hb,
    LIn_K (hG _ _ (by omega)) (hG _ _ (by omega)) (hA _ (by omega)) (hA _ (by omega)) (hA _ (by omega)) (hA _ (by omega)) (hA _ (by omega)) (hA _ (by omega)) (fun b _ => hG _ _ (by omega)) hn⟩
theorem tm_LIf {st w : XS} {g nF : Nat} {fm fz sz : Nat → Nat} (hf : LIf st g nF fm fz sz) {j g2 nF2 i2 np : Nat} (hc : (j < nF ∧ nF2 = nF ∧ g2 = fm j) ∨ (j = nF ∧ nF2 = nF + 1 ∧ g2 = nF + 1)) (hnF : nF2 ≤ 6)
    (h11 : gp w 1 1 = some (300 + 4 * g2)) (h30 : gi w 3 0 = nI nF2) (h330 : gi w 3 30 = nI nF2) (h6 : ∀ z, gb w 6 z = if z = j then some (300 + 4 * g) else gb st 6 z)
    (hold3 : ∀ f, f ≤ nF → ¬ f = g → gi w 3 (300 + 4 * f) = gi st 3 (300 + 4 * f)) (holdA : ∀ f, f ≤ nF → ¬ f = g → ∀ i, 1 ≤ i → i < 4 → ga w (300 + 4 * f + i) = ga st (300 + 4 * f + i))
    (h34 : ga w 34 = upd (ga st 34) j (nI np)) (hrow : ∀ z, z < 6 → ¬ z = j → ∀ i, i < 160 → ga w 35 (160 * z + i) = ga st 35 (160 * z + i) ∧ ga w 36 (160 * z + i) = ga st 36 (160 * z + i) ∧ ga w 37 (160 * z + i) = ga st 37 (160 * z + i) ∧ ga w 38 (160 * z + i) = ga st 38 (160 * z + i))
    (hgz : gi w 3 (300 + 4 * g) = nI i2) (hnp : np ≤ 160) (hform : FormOK (ga w (300 + 4 * g + 1)) (ga w (300 + 4 * g + 2)) (ga w (300 + 4 * g + 3)) i2 (wRo w 35 (160 * j)) (wRo w 36 (160 * j)) (wRo w 37 (160 * j)) (wRo w 38 (160 * j)) np) :
    LIf w g2 nF2 (fun z => if z = j then g else fm z) (fun z => if z = j then i2 else fz z) (fun z => if z = j then np else sz z) := by
  obtain ⟨a1, a2, a3, a4, a5, a6, a7⟩ := hf
  have hz9 : ∀ z, z < nF2 → ¬ z = j → z < nF := fun z h1 h2 => by omega
  have hg2 : g2 ≤ nF2 := by
    rcases hc with ⟨q1, q2, q3⟩ | ⟨q1, q2, q3⟩
    · have := (a6 j q1).1; omega
    · omega
  have hgg : ¬ g = g2 := by
    rcases hc with ⟨q1, q2, q3⟩ | ⟨q1, q2, q3⟩
    · have := (a6 j q1).2.1; omega
    · omega
  have hfg : ∀ z, z < nF → ¬ z = j → ¬ fm z = g2 := fun z h1 h2 q => by
    rcases hc with ⟨q1, q2, q3⟩ | ⟨q1, q2, q3⟩
    · exact h2 (a7 z j h1 q1 (q.trans q3))
    · have := (a6 z h1).1; omega
  refine ⟨hg2, h11, h30, h330, fun i hi => ?_, fun z hz => ?_, fun x y hx hy e => ?_⟩
  · rw [h6]
    by_cases e : i = j
    · rw [if_pos e, if_pos (by omega)]; show _ = some (300 + 4 * (if i = j then g else fm i)); rw [if_pos e]
    · rw [if_neg e, a5 i hi]
      show (if i < nF then some (300 + 4 * fm i) else none) = if i < nF2 then some (300 + 4 * (if i = j then g else fm i)) else none
      rw [if_neg e]
      by_cases e2 : i < nF
      · rw [if_pos e2, if_pos (by omega)]
      · rw [if_neg e2, if_neg (by omega)]
  · by_cases e : z = j
    · subst e
      show (if z = z then g else fm z) ≤ nF2 ∧ ¬ (if z = z then g else fm z) = g2 ∧ gi w 3 (300 + 4 * (if z = z then g else fm z)) = nI (if z = z then i2 else fz z) ∧ ga w 34 z = nI (if z = z then np else sz z) ∧ (if z = z then np else sz z) ≤ 160 ∧ FormOK (ga w (300 + 4 * (if z = z then g else fm z) + 1)) (ga w (300 + 4 * (if z = z then g else fm z) + 2)) (ga w (300 + 4 * (if z = z then g else fm z) + 3)) (if z = z then i2 else fz z) (wRo w 35 (160 * z)) (wRo w 36 (160 * z)) (wRo w 37 (160 * z)) (wRo w 38 (160 * z)) (if z = z then np else sz z)
      rw [if_pos rfl, if_pos rfl, if_pos rfl]
      exact ⟨by omega, hgg, hgz, by rw [h34]; exact upd_at .., hnp, hform⟩
    · have hz2 := hz9 z hz e
      obtain ⟨b1, b2, b3, b4, b5, b6⟩ := a6 z hz2
      show (if z = j then g else fm z) ≤ nF2 ∧ ¬ (if z = j then g else fm z) = g2 ∧ gi w 3 (300 + 4 * (if z = j then g else fm z)) = nI (if z = j then i2 else fz z) ∧ ga w 34 z = nI (if z = j then np else sz z) ∧ (if z = j then np else sz z) ≤ 160 ∧ FormOK (ga w (300 + 4 * (if z = j then g else fm z) + 1)) (ga w (300 + 4 * (if z = j then g else fm z) + 2)) (ga w (300 + 4 * (if z = j then g else fm z) + 3)) (if z = j then i2 else fz z) (wRo w 35 (160 * z)) (wRo w 36 (160 * z)) (wRo w 37 (160 * z)) (wRo w 38 (160 * z)) (if z = j then np else sz z)
      rw [if_neg e, if_neg e, if_neg e]
      refine ⟨by omega, hfg z hz2 e, (hold3 _ b1 b2).trans b3, by rw [h34, upd_ne _ _ e]; exact b4, b5, ?_⟩
      rw [holdA _ b1 b2 1 (by decide) (by decide), holdA _ b1 b2 2 (by decide) (by decide), holdA _ b1 b2 3 (by decide) (by decide)]
      exact FormOK_K b6 (fun i hi => hrow z (by omega) e i hi)
  · change (if x = j then g else fm x) = (if y = j then g else fm y) at e
    by_cases ex : x = j
    · by_cases ey : y = j
      · rw [ex, ey]
      · rw [if_pos ex, if_neg ey] at e
        exact absurd e.symm (a6 y (hz9 y hy ey)).2.1
    · by_cases ey : y = j
      · rw [if_neg ex, if_pos ey] at e
        exact absurd e (a6 x (hz9 x hx ex)).2.1
      · rw [if_neg ex, if_neg ey] at e
        exact a7 x y (hz9 x hx ex) (hz9 y hy ey) e
/-- a failed template leaves the forms -/
theorem tm_LIf0 {st w : XS} {g nF : Nat} {fm fz sz : Nat → Nat} (hf : LIf st g nF fm fz sz) (hnF : nF ≤ 6)
    (h11 : gp w 1 1 = gp st 1 1) (h30 : gi w 3 0 = gi st 3 0) (h330 : gi w 3 30 = gi st 3 30) (h6 : gb w 6 = gb st 6)
    (hold3 : ∀ f, f ≤ nF → ¬ f = g → gi w 3 (300 + 4 * f) = gi st 3 (300 + 4 * f)) (holdA : ∀ f, f ≤ nF → ¬ f = g → ∀ i, 1 ≤ i → i < 4 → ga w (300 + 4 * f + i) = ga st (300 + 4 * f + i))
    (h34 : ga w 34 = ga st 34) (hrow : ∀ z, z < 6 → ∀ i, i < 160 → ga w 35 (160 * z + i) = ga st 35 (160 * z + i) ∧ ga w 36 (160 * z + i) = ga st 36 (160 * z + i) ∧ ga w 37 (160 * z + i) = ga st 37 (160 * z + i) ∧ ga w 38 (160 * z + i) = ga st 38 (160 * z + i)) : LIf w g nF fm fz sz := by
  obtain ⟨a1, a2, a3, a4, a5, a6, a7⟩ := hf
  refine ⟨a1, h11.trans a2, h30.trans a3, h330.trans a4, fun i hi => by rw [h6]; exact a5 i hi, fun z hz => ?_, a7⟩
  obtain ⟨b1, b2, b3, b4, b5, b6⟩ := a6 z hz
  refine ⟨b1, b2, (hold3 _ b1 b2).trans b3, by rw [h34]; exact b4, b5, ?_⟩
  rw [holdA _ b1 b2 1 (by decide) (by decide), holdA _ b1 b2 2 (by decide) (by decide), holdA _ b1 b2 3 (by decide) (by decide)]
  exact FormOK_K b6 (fun i hi => hrow z (by omega) i hi)
