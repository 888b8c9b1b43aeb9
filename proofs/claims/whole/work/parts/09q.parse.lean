/-! ===== reading: a choice, all PARTs ===== -/
section CH
variable {T pg : Nat → Int32} {np bs : Nat}
theorem skip_eq (h : PG T pg np) {x : RS} {a k : Nat} (hx : x.1 = nI a) (ha : a < 1000) (hk : 0 < k) (hk2 : k < 1000) : rSkip T np (nI k) x = if msgF pg np a = nI k then (true, rUp x) else (false, x) := by
  unfold rSkip
  rw [hx]
  by_cases c : msgF pg np a = nI k
  · rw [if_pos c, if_pos ((sg_eq h ha hk hk2).mpr c)]
  · rw [if_neg c, if_neg (fun q => c ((sg_eq h ha hk hk2).mp q))]
theorem choice_eq (h : PG T pg np) {il : Bool} {pt : RS → Bool × RS} {u : RS} {a : Nat} (hu : u.1 = nI a) (ha : a < 1000) :
    (if (rSkip T np (nI 60) u).1 then rChoiceA T np il pt (sgF T np u.1) (rSkip T np (nI 60) u).2 else if (rSkip T np (nI 62) (rSkip T np (nI 60) u).2).1 then rChoiceA T np il pt (sgF T np u.1) (rSkip T np (nI 62) (rSkip T np (nI 60) u).2).2 else if (rSkip T np (nI 61) (rSkip T np (nI 62) (rSkip T np (nI 60) u).2).2).1 then rChoiceA T np il pt (sgF T np u.1) (rSkip T np (nI 61) (rSkip T np (nI 62) (rSkip T np (nI 60) u).2).2).2 else (false, (rSkip T np (nI 61) (rSkip T np (nI 62) (rSkip T np (nI 60) u).2).2).2)) = if pqR (msgF pg np a) = true then rChoiceA T np il pt (sgF T np u.1) (rUp u) else (false, u) := by
  unfold pqR
  rw [skip_eq h hu ha (by decide) (by decide)]
  by_cases c1 : msgF pg np a = nI 60
  · rw [if_pos c1, if_pos rfl, if_pos (by rw [c1]; rfl)]
  · rw [if_neg c1, if_neg (show ¬ ((false, u) : Bool × RS).1 = true from Bool.false_ne_true)]
    show (if (rSkip T np (nI 62) u).1 then rChoiceA T np il pt (sgF T np u.1) (rSkip T np (nI 62) u).2 else if (rSkip T np (nI 61) (rSkip T np (nI 62) u).2).1 then rChoiceA T np il pt (sgF T np u.1) (rSkip T np (nI 61) (rSkip T np (nI 62) u).2).2 else (false, (rSkip T np (nI 61) (rSkip T np (nI 62) u).2).2)) = _
    rw [skip_eq h hu ha (by decide) (by decide)]
    by_cases c2 : msgF pg np a = nI 62
    · rw [if_pos c2, if_pos rfl, if_pos (by rw [c2]; rfl)]
    · rw [if_neg c2, if_neg (show ¬ ((false, u) : Bool × RS).1 = true from Bool.false_ne_true)]
      show (if (rSkip T np (nI 61) u).1 then rChoiceA T np il pt (sgF T np u.1) (rSkip T np (nI 61) u).2 else (false, (rSkip T np (nI 61) u).2)) = _
      rw [skip_eq h hu ha (by decide) (by decide)]
      by_cases c3 : msgF pg np a = nI 61
      · rw [if_pos c3, if_pos rfl, if_pos (by rw [c3]; rfl)]
      · rw [if_neg c3, if_neg (show ¬ ((false, u) : Bool × RS).1 = true from Bool.false_ne_true), if_neg (by rw [decide_eq_false c1, decide_eq_false c2, decide_eq_false c3]; exact Bool.false_ne_true)]
theorem choice_it (h : PG T pg np) {il : Bool} {S : SK} (hil : ilS S = il) (hS : S.length < 5) {x : RS} {a i : Nat} {mk bo ot : Nat → Int32} (hx : x.1 = nI a) (hz : x.2.2.1 = nI i) (hi : i ≤ a) (ha : a < np) (hb : pg a = nI 123) (h63 : msgF pg np (a + 1) = nI 63) {pt : RS → Bool × RS} (hpt : ∀ mo, PtH T pg np bs il false ((false, a, mo) :: S) pt) : ItR pg np bs il S x (rChoice T np il pt (rUp x)) a i mk bo ot := by
  have hnp := h.1
  have hlt1 := msg_lt h63 (by decide)
  have hst := pqStep_br pg np bs (S := S) (f := none) (q := x.2.1) (mk := mk) (bo := bo) (ot := ot) hb
  rw [if_neg (fun q => absurd (h63.symm.trans q.1) (by decide)), if_pos ⟨h63, hS⟩, hil] at hst
  obtain ⟨X0, hX0⟩ : ∃ X0, X0 = rPt (rUp (rUp x)) := ⟨_, rfl⟩
  have hx2 : X0.1 = nI (a + 2) := by rw [hX0]; show x.1 + nI 1 + nI 1 = _; rw [hx, nI_add, nI_add]
  have hzz : X0.2.2.1 = nI i := by rw [hX0]; exact hz
  have hqq : X0.2.1 = x.2.1 + nI 1 := by rw [hX0]; rfl
  have hXc : AgC i x X0 := by rw [hX0]; exact fun k _ => ⟨rfl, rfl, rfl⟩
  have hC : rChoice T np il pt (rUp x) = (if (rSum T np il X0).1 then (if (rSkip T np (nI 60) (rSum T np il X0).2).1 then rChoiceA T np il pt (sgF T np (rSum T np il X0).2.1) (rSkip T np (nI 60) (rSum T np il X0).2).2 else if (rSkip T np (nI 62) (rSkip T np (nI 60) (rSum T np il X0).2).2).1 then rChoiceA T np il pt (sgF T np (rSum T np il X0).2.1) (rSkip T np (nI 62) (rSkip T np (nI 60) (rSum T np il X0).2).2).2 else if (rSkip T np (nI 61) (rSkip T np (nI 62) (rSkip T np (nI 60) (rSum T np il X0).2).2).2).1 then rChoiceA T np il pt (sgF T np (rSum T np il X0).2.1) (rSkip T np (nI 61) (rSkip T np (nI 62) (rSkip T np (nI 60) (rSum T np il X0).2).2).2).2 else (false, (rSkip T np (nI 61) (rSkip T np (nI 62) (rSkip T np (nI 60) (rSum T np il X0).2).2).2).2)) else (false, (rSum T np il X0).2)) := by rw [hX0]; rfl
  rw [hC]
  clear hC
  obtain ⟨s1, s2, s3⟩ := sum_eq h (il := il) hx2 (by omega) hzz (by omega)
  have hle1 := pqS_le (pg := pg) (np := np) (il := il) (a + 2)
  unfold pqC at hst
  rw [show a + 1 + 1 = a + 2 from rfl] at hst
  rw [s1]
  by_cases c1 : (pqS pg np il (a + 2)).2 = true
  · obtain ⟨i2, w1, w2, w3, w4, w5⟩ := s3 c1
    rw [if_pos c1]
    rw [if_pos c1] at hst
    obtain ⟨c2, hc2⟩ : ∃ c2, c2 = (pqS pg np il (a + 2)).1 := ⟨_, rfl⟩
    rw [← hc2] at s2 w3 w5 hle1 hst
    obtain ⟨u, hu⟩ : ∃ u, u = (rSum T np il X0).2 := ⟨_, rfl⟩
    rw [← hu] at s2 w1 w2 w4 w5 ⊢
    have hc2n := hle1.2 (by omega)
    rw [choice_eq h s2 (by omega)]
    by_cases r1 : pqR (msgF pg np c2) = true
    · rw [if_pos r1]
      rw [if_pos r1] at hst
      have hlt2 : c2 < np := by
        rcases Nat.lt_or_ge c2 np with q | q
        · exact q
        · exact absurd r1 (by rw [msgF, if_neg (by omega)]; decide)
      have em2 : msgF pg np c2 = pg c2 := if_pos hlt2
      have es2 : sgF T np u.1 = pg c2 := by rw [s2, sg_at h (by omega), if_pos hlt2]
      rw [es2]
      have hle5 := SmC_le w5
      have hzu : (rUp u).2.2.1 = nI i2 := w2
      have hZe := rAdd_eq hzu (show i2 < 160 by omega) (nI 4) (nI 0) (nI 0)
      have hZc : AgC i2 u (rAdd (rUp u) (nI 4) (nI 0) (nI 0)) := AgC_add hzu (show i2 < 160 by omega) (nI 4) (nI 0) (nI 0)
      obtain ⟨Z, hZ⟩ : ∃ Z, Z = rAdd (rUp u) (nI 4) (nI 0) (nI 0) := ⟨_, rfl⟩
      have hA : rChoiceA T np il pt (pg c2) (rUp u) = (if (rSum T np il Z).1 then (if (rSkip T np (nI 58) (rSum T np il Z).2).1 then rChoiceB T np pt (pg c2) (rSkip T np (nI 58) (rSum T np il Z).2).2 else (false, (rSkip T np (nI 58) (rSum T np il Z).2).2)) else (false, (rSum T np il Z).2)) := by rw [hZ]; rfl
      rw [hA]
      clear hA
      rw [← hZ] at hZe hZc
      have hZ1 : Z.1 = nI (c2 + 1) := by rw [hZe]; show u.1 + nI 1 = _; rw [s2, nI_add]
      have hZz : Z.2.2.1 = nI (i2 + 1) := by rw [hZe]
      have hZq : Z.2.1 = u.2.1 := by rw [hZe]; rfl
      have hZD : Z.2.2.2.1 i2 = nI 4 := by rw [hZe]; exact upd_at ..
      obtain ⟨t1, t2, t3⟩ := sum_eq h (il := il) hZ1 (by omega) hZz (by omega)
      have hle2 := pqS_le (pg := pg) (np := np) (il := il) (c2 + 1)
      rw [t1]
      by_cases c3 : (pqS pg np il (c2 + 1)).2 = true
      · obtain ⟨i3, v1, v2, v3, v4, v5⟩ := t3 c3
        rw [if_pos c3]
        rw [if_pos c3] at hst
        obtain ⟨d, hd⟩ : ∃ d, d = (pqS pg np il (c2 + 1)).1 := ⟨_, rfl⟩
        rw [← hd] at t2 v3 v5 hle2 hst
        obtain ⟨w, hw⟩ : ∃ w, w = (rSum T np il Z).2 := ⟨_, rfl⟩
        rw [← hw] at t2 v1 v2 v4 v5 ⊢
        have hdn := hle2.2 (by omega)
        have hle6 := SmC_le v5
        rw [skip_eq h t2 (by omega) (by decide) (by decide)]
        by_cases c5 : msgF pg np d = nI 58
        · rw [if_pos c5, if_pos rfl]
          rw [if_pos c5] at hst
          have hlt3 := msg_lt c5 (by decide)
          have p1 : PR pg np bs 1 (a, none, S, x.2.1, mk, bo, ot) (d + 1, none, (false, a, none) :: S, (rUp w).2.1, upd mk (bs + a) (nI 0), upd bo (bs + a) (nI (d + 1)), ot) := by
            refine PR_1 ha rfl ?_
            rw [show (rUp w).2.1 = x.2.1 + nI 1 from (v1.trans hZq).trans (w1.trans hqq)]
            exact hst
          have hv1 : (rUp w).1 = nI (d + 1) := by show w.1 + nI 1 = _; rw [t2, nI_add]
          show ItR pg np bs il S x (rChoiceB T np pt (pg c2) (rUp w)) a i mk bo ot
          obtain ⟨R, hR⟩ : ∃ R, R = rChoiceB T np pt (pg c2) (rUp w) := ⟨_, rfl⟩
          have hBB := choiceB_it (bs := bs) h hpt hv1 v2 (show i3 < d + 1 by omega) (by omega) (show a < d + 1 by omega) (pg c2) (upd mk (bs + a) (nI 0)) (upd bo (bs + a) (nI (d + 1))) ot
          rw [← hR] at hBB ⊢
          rcases hBB with ⟨b1, a', i', mk', bo', ot', m, n, j, b, b2, b3, b4, b5, b6, b7, b8, b9, b10, b11, b12, b13, b14, b15, b16⟩ | ⟨b1, f, b2, b3⟩
          · have hw8 : AgC i3 w R.2 := b8
            have huw : AgC (i2 + 1) Z R.2 := AgC_tr v4 hw8 (by omega)
            have huu : AgC i2 u R.2 := AgC_tr hZc huw (by omega)
            refine Or.inl ⟨b1, a', i', mk', bo', ot', n, ⟨b2, b3, by omega, b5, by omega, by omega, AgC_tr hXc (AgC_tr w4 huu (by omega)) (Nat.le_refl _), fun p hp => ?_, 1 + m, by omega, PR_tr p1 b11⟩, Or.inr (Or.inr (Or.inr ⟨hb, (msg_v hlt1).mp h63, i2, c2, i3, d, SmC_K w5 (fun k r1 r2 => huu k r2) (fun _ _ _ => rfl), by rw [← em2]; exact r1, ?_, SmC_K v5 (fun k r1 r2 => hw8 k r2) (fun _ _ _ => rfl), (msg_v hlt3).mp c5, ?_, b12, b13, j, b, b14, b15, b16⟩))⟩
            · obtain ⟨q1, q2, q3⟩ := b9 p (by omega)
              refine ⟨q1.trans (upd_ne _ _ (by omega)), q2.trans (upd_ne _ _ (by omega)), q3 (by omega)⟩
            · show R.2.2.2.2.1 i2 = _; rw [(huw i2 (Nat.lt_succ_self _)).1]; exact hZD
            · show bo' (bs + a) = _; rw [(b9 (bs + a) (by omega)).2.1]; exact upd_at ..
          · exact Or.inr ⟨b1, f, b2, Flt_st p1 (by omega) b3⟩
        · rw [if_neg c5, if_neg (show ¬ ((false, w) : Bool × RS).1 = true from Bool.false_ne_true)]
          rw [if_neg c5] at hst
          exact Or.inr ⟨rfl, d, t2, by omega, 1, _, by omega, PR_1 ha rfl hst, Or.inl rfl⟩
      · rw [if_neg c3]
        rw [if_neg c3] at hst
        exact Or.inr ⟨rfl, _, t2, by have := hle2.2 (by omega); omega, 1, _, by omega, PR_1 ha rfl hst, Or.inl rfl⟩
    · rw [if_neg r1]
      rw [if_neg r1] at hst
      exact Or.inr ⟨rfl, c2, s2, by omega, 1, _, by omega, PR_1 ha rfl hst, Or.inl rfl⟩
  · rw [if_neg c1]
    rw [if_neg c1] at hst
    exact Or.inr ⟨rfl, _, s2, by have := hle1.2 (by omega); omega, 1, _, by omega, PR_1 ha rfl hst, Or.inl rfl⟩
theorem field_no {x : RS} {il : Bool} (h : nmB (sgF T np x.1) il = false) : rField T np il x = (false, x) := by
  unfold rField; rw [if_neg (by rw [h]; exact Bool.false_ne_true)]
theorem parts_eq (h : PG T pg np) : ∀ k il ol S, S.length + k = 5 → ilS S = il → TopOK ol S → PtH T pg np bs il ol S (rParts T np k il ol) := by
  have hnp := h.1
  intro k
  induction k with
  | zero =>
    intro il ol S hk hil hT x a i mk bo ot hx hz hi ha
    rw [rParts]
    refine parts_loop h hT (fun x a i mk bo ot hx hz hi ha hb => ?_) 160 x a i mk bo ot hx hz hi ha (by omega)
    have hx1 : (rUp x).1 = nI (a + 1) := by show x.1 + nI 1 = _; rw [hx, nI_add]
    have e : rPart T np rNo rNo il (rUp x) = rField T np il (rUp x) := by
      unfold rPart
      split
      · next q => rw [field_no (by rw [q]; cases il <;> decide)]; rfl
      · split
        · next q => rw [field_no (by rw [q]; cases il <;> decide)]; rfl
        · rfl
    rw [e]
    exact field_it h hil hx hz hi ha hb (fun q => absurd q.2.1 (by omega)) (fun q => absurd q.2 (by omega))
  | succ k ih =>
    intro il ol S hk hil hT x a i mk bo ot hx hz hi ha
    rw [rParts]
    refine parts_loop h hT (fun x a i mk bo ot hx hz hi ha hb => ?_) 160 x a i mk bo ot hx hz hi ha (by omega)
    have hx1 : (rUp x).1 = nI (a + 1) := by show x.1 + nI 1 = _; rw [hx, nI_add]
    have e42 := sg_eq h (a := a + 1) (k := 42) (by omega) (by decide) (by decide)
    have e63 := sg_eq h (a := a + 1) (k := 63) (by omega) (by decide) (by decide)
    unfold rPart
    rw [hx1]
    by_cases c1 : msgF pg np (a + 1) = nI 42
    · rw [if_pos (e42.mpr c1)]
      cases il with
      | true =>
        have e : (if true = true then ((false, rUp x) : Bool × RS) else rLoop T np (rParts T np k true true) (rUp x)) = rField T np true (rUp x) := by
          rw [if_pos rfl, field_no (by rw [hx1, e42.mpr c1]; decide)]
        refine Eq.mpr (congrArg (fun r => ItR pg np bs true S x r a i mk bo ot) e) ?_
        exact field_it h hil hx hz hi ha hb (fun q => absurd (hil.symm.trans q.2.2) (by decide)) (fun q => absurd (c1.symm.trans q.1) (by decide))
      | false =>
        exact loop_it h hil (by omega) hx hz hi ha hb c1 (ih true true _ (by show S.length + 1 + k = 5; omega) (by rw [ilS_c, hil]; rfl) rfl)
    · rw [if_neg (fun q => c1 (e42.mp q))]
      by_cases c2 : msgF pg np (a + 1) = nI 63
      · rw [if_pos (e63.mpr c2)]
        exact choice_it h hil (by omega) hx hz hi ha hb c2 (fun mo => ih il false _ (by show S.length + 1 + k = 5; omega) (by rw [ilS_c, hil]; exact Bool.or_false _) rfl)
      · rw [if_neg (fun q => c2 (e63.mp q))]
        exact field_it h hil hx hz hi ha hb (fun q => c1 q.1) (fun q => c2 q.1)
end CH
