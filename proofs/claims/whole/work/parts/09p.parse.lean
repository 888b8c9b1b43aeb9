/-! ===== reading: loops, choices, all ===== -/
theorem ilF_c {f g : Nat → Bool} : ∀ k, (∀ j, j < k → f j = g j) → ilF f k = ilF g k := by
  intro k
  induction k with
  | zero => intro _; rfl
  | succ k ih => intro h; rw [ilF, ilF, ih (fun j hj => h j (by omega)), h k (Nat.lt_succ_self _)]
theorem ilS_c (y : Bool × Nat × Option Nat) (S : SK) : ilS (y :: S) = (ilS S || y.1) := by
  unfold ilS
  show ilF (lpS (y :: S)) (S.length + 1) = _
  rw [ilF, ilF_c S.length (fun j hj => show lpS (y :: S) j = lpS S j by rw [lpS, if_neg (by omega)]), lpS, if_pos rfl]
def PtH (T pg : Nat → Int32) (np bs : Nat) (il ol : Bool) (S : SK) (pt : RS → Bool × RS) : Prop := ∀ x a i mk bo ot, x.1 = nI a → x.2.2.1 = nI i → i ≤ a → a ≤ np → PtR T pg np bs il ol S x (pt x) a i mk bo ot
theorem rAim_eq {x : RS} {i k : Nat} (hz : x.2.2.1 = nI k) (hi : i < 160) : rAim x (nI i) = (x.1, x.2.1, x.2.2.1, x.2.2.2.1, x.2.2.2.2.1, upd x.2.2.2.2.2 i (nI k)) := by
  unfold rAim; rw [xset_upd hi (by decide), hz]
section LC
variable {T pg : Nat → Int32} {np bs : Nat}
theorem loop_it (h : PG T pg np) {S : SK} (hil : ilS S = false) (hS : S.length < 5) {x : RS} {a i : Nat} {mk bo ot : Nat → Int32} (hx : x.1 = nI a) (hz : x.2.2.1 = nI i) (hi : i ≤ a) (ha : a < np) (hb : pg a = nI 123) (h42 : msgF pg np (a + 1) = nI 42) {pt : RS → Bool × RS} (hpt : PtH T pg np bs true true ((true, a, none) :: S) pt) : ItR pg np bs false S x (rLoop T np pt (rUp x)) a i mk bo ot := by
  have hnp := h.1
  have hlt1 := msg_lt h42 (by decide)
  have hst := pqStep_br pg np bs (S := S) (f := none) (q := x.2.1) (mk := mk) (bo := bo) (ot := ot) hb
  rw [if_pos ⟨h42, hS, hil⟩] at hst
  have hx2 : (rPt (rUp (rUp x))).1 = nI (a + 2) := by show x.1 + nI 1 + nI 1 = _; rw [hx, nI_add, nI_add]
  have hzz : (rPt (rUp (rUp x))).2.2.1 = nI i := hz
  have hZe := rAdd_eq hzz (show i < 160 by omega) (nI 7) (nI 0) (nI 0)
  have hZc : AgC i x (rAdd (rPt (rUp (rUp x))) (nI 7) (nI 0) (nI 0)) := AgC_add hzz (show i < 160 by omega) (nI 7) (nI 0) (nI 0)
  have p1 : PR pg np bs 1 (a, none, S, x.2.1, mk, bo, ot) (a + 2, none, (true, a, none) :: S, x.2.1 + nI 1, upd mk (bs + a) (nI 0), upd bo (bs + a) (nI (a + 2)), ot) := PR_1 ha rfl hst
  unfold rLoop
  obtain ⟨Z, hZ⟩ : ∃ Z, Z = rAdd (rPt (rUp (rUp x))) (nI 7) (nI 0) (nI 0) := ⟨_, rfl⟩
  rw [← hZ] at hZe hZc ⊢
  have hZ1 : Z.1 = nI (a + 2) := by rw [hZe]; exact hx2
  have hZz : Z.2.2.1 = nI (i + 1) := by rw [hZe]
  have hZq : Z.2.1 = x.2.1 + nI 1 := by rw [hZe]; rfl
  rw [← hZq] at p1
  rcases hpt Z (a + 2) (i + 1) (upd mk (bs + a) (nI 0)) (upd bo (bs + a) (nI (a + 2))) ot hZ1 hZz (by omega) (by omega) with ⟨g1, b, j, mk1, bo1, ot1, n, g2, g3, g4⟩ | ⟨g1, f, g2, g3⟩
  · rw [if_pos g1]
    obtain ⟨y, hy⟩ : ∃ y, y = (pt Z).2 := ⟨_, rfl⟩
    rw [← hy] at g2 g3 g4 ⊢
    obtain ⟨o1, o2, o3, o4, o5, o6, o7, o8, m, o9, o10⟩ := g2
    by_cases c : rEnds T np y = true
    · rw [if_pos c]
      obtain ⟨c1, c2⟩ := (ends_iff h o1 o4).mp c
      have hlt := msg_lt c1 (by decide)
      have hlt2 := msg_lt c2 (by decide)
      have cb : pg b = nI 42 := (msg_v hlt).mp c1
      have ij : j < 160 := by omega
      have hs2 : pqStep pg np bs (b, none, (true, a, none) :: S, y.2.1, mk1, bo1, ot1) = (b + 2, none, S, y.2.1, upd (upd mk1 (bs + b) (nI 0)) (bs + b) (nI 1), bo1, ot1) := by
        rw [pqStep_t _ _ _ (by rw [cb]; decide), if_neg (by rw [cb]; decide), if_pos ⟨cb, c2⟩]
      have hyz : (rUp2 y).2.2.1 = nI j := o2
      have hWe := rAdd_eq hyz ij (nI 8) (nI 0) ((rUp x).2.2.1 + nI 1)
      have hWc : AgC j y (rAdd (rUp2 y) (nI 8) (nI 0) ((rUp x).2.2.1 + nI 1)) := AgC_add hyz ij (nI 8) (nI 0) ((rUp x).2.2.1 + nI 1)
      obtain ⟨W, hW⟩ : ∃ W, W = rAdd (rUp2 y) (nI 8) (nI 0) ((rUp x).2.2.1 + nI 1) := ⟨_, rfl⟩
      rw [← hW] at hWe hWc ⊢
      have hMc : AgM bs b (b + 2) mk1 bo1 ot1 (upd (upd mk1 (bs + b) (nI 0)) (bs + b) (nI 1)) bo1 ot1 := fun p hp => ⟨by rw [upd_ne _ _ (by omega), upd_ne _ _ (by omega)], rfl, rfl⟩
      have hM0 : AgM bs a (a + 2) mk bo ot (upd mk (bs + a) (nI 0)) (upd bo (bs + a) (nI (a + 2))) ot := fun p hp => ⟨upd_ne _ _ (by omega), upd_ne _ _ (by omega), rfl⟩
      refine Or.inl ⟨rfl, b + 2, j + 1, upd (upd mk1 (bs + b) (nI 0)) (bs + b) (nI 1), bo1, ot1, n, ⟨?_, ?_, by omega, by omega, by omega, by omega, AgC_tr (AgC_tr hZc o7 (by omega)) hWc (by omega), AgM_tr (AgM_tr hM0 o8 o3 (by omega)) hMc (by omega) (by omega), 1 + m + 1, by omega, ?_⟩, Or.inr (Or.inr (Or.inl ⟨rfl, hb, ?_, ?_, ?_, j, b, ?_, ?_, ?_, ?_, ?_, rfl, rfl⟩))⟩
      · rw [hWe]; show y.1 + nI 2 = _; rw [o1, nI_add]
      · rw [hWe]
      · have := PR_tr (PR_tr p1 o10) (PR_1 hlt rfl hs2)
        rw [show W.2.1 = y.2.1 from by rw [hWe]; rfl]; exact this
      · exact (msg_v hlt1).mp h42
      · show bo1 (bs + a) = _
        rw [(o8 (bs + a) (Or.inl (by omega))).2.1]; exact upd_at ..
      · show W.2.2.2.1 i = _
        rw [(hWc i (by omega)).1, (o7 i (by omega)).1, hZe]; exact upd_at ..
      · exact Seg_K n _ _ _ _ _ g4 (Ag_R hWc) (Ag_T hMc)
      · rw [cb]; decide
      · exact upd_at ..
      · show W.2.2.2.1 j = _
        rw [hWe]; exact upd_at ..
      · show W.2.2.2.2.2 j = _
        rw [hWe]; refine (upd_at ..).trans ?_
        rw [show (rUp x).2.2.1 = nI i from hz, nI_add]
    · rw [if_neg c]
      refine Or.inr ⟨rfl, b, o1, ?_⟩
      rcases (stop_iff h o1 o4).mp g3 with q | q | q | ⟨_, q1, q2⟩
      · exact ⟨by omega, 1 + m, _, by omega, PR_tr p1 o10, Or.inr ⟨rfl, by show ¬ b < np; omega, rfl, Nat.succ_ne_zero _⟩⟩
      · have hlt := msg_lt q (by decide)
        have cb : pg b = nI 124 := (msg_v hlt).mp q
        refine ⟨by omega, 1 + m + 1, _, by omega, PR_tr (PR_tr p1 o10) (PR_1 hlt rfl rfl), Or.inl ?_⟩
        rw [pqStep_t _ _ _ (by rw [cb]; decide), if_pos (Or.inr cb)]
      · have hlt := msg_lt q (by decide)
        have cb : pg b = nI 125 := (msg_v hlt).mp q
        refine ⟨by omega, 1 + m + 1, _, by omega, PR_tr (PR_tr p1 o10) (PR_1 hlt rfl rfl), Or.inl ?_⟩
        rw [pqStep_t _ _ _ (by rw [cb]; decide), if_pos (Or.inl cb)]
      · exact absurd ((ends_iff h o1 o4).mpr ⟨q1, q2⟩) c
  · rw [if_neg (by rw [g1]; exact Bool.false_ne_true)]
    exact Or.inr ⟨rfl, f, g2, Flt_st p1 (by omega) g3⟩
theorem choiceB_it (h : PG T pg np) {il : Bool} {S : SK} {a c i3 : Nat} {pt : RS → Bool × RS} (hpt : ∀ mo, PtH T pg np bs il false ((false, a, mo) :: S) pt) {v : RS} (hv : v.1 = nI c) (hz : v.2.2.1 = nI i3) (hi : i3 < c) (hc : c ≤ np) (hac : a < c) (rel : Int32) (mk bo ot : Nat → Int32) :
    ((rChoiceB T np pt rel v).1 = true ∧ ∃ a' i' mk' bo' ot' m n j b, (rChoiceB T np pt rel v).2.1 = nI a' ∧ (rChoiceB T np pt rel v).2.2.2.1 = nI i' ∧ c < a' ∧ a' ≤ np ∧ i3 < i' ∧ i' + c ≤ a' + i3 ∧ AgC i3 v (rChoiceB T np pt rel v).2 ∧ (∀ p, (p < bs + c ∨ bs + a' ≤ p) → mk' p = mk p ∧ bo' p = bo p ∧ (¬ p = bs + a → ot' p = ot p)) ∧ m + c ≤ a' ∧ PR pg np bs m (c, none, (false, a, none) :: S, v.2.1, mk, bo, ot) (a', none, S, (rChoiceB T np pt rel v).2.2.1, mk', bo', ot') ∧ (rChoiceB T np pt rel v).2.2.2.2.1 i3 = nI 5 ∧ (rChoiceB T np pt rel v).2.2.2.2.2.1 i3 = rel ∧
      Seg (rChoiceB T np pt rel v).2.2.2.2.1 (rChoiceB T np pt rel v).2.2.2.2.2.1 (rChoiceB T np pt rel v).2.2.2.2.2.2 pg (fun p => mk' (bs + p)) (fun p => bo' (bs + p)) (fun p => ot' (bs + p)) n il (i3 + 1) c j b ∧ ¬ pg b = nI 123 ∧
      ((mk' (bs + b) = nI 3 ∧ (rChoiceB T np pt rel v).2.2.2.2.2.2 i3 = nI j ∧ ot' (bs + a) = nI (b + 1) ∧ i' = j ∧ a' = b + 1) ∨
       (mk' (bs + b) = nI 2 ∧ (rChoiceB T np pt rel v).2.2.2.2.1 j = nI 6 ∧ (rChoiceB T np pt rel v).2.2.2.2.2.2 i3 = nI (j + 1) ∧ ot' (bs + a) = nI (b + 1) ∧ ∃ j2 b2, Seg (rChoiceB T np pt rel v).2.2.2.2.1 (rChoiceB T np pt rel v).2.2.2.2.2.1 (rChoiceB T np pt rel v).2.2.2.2.2.2 pg (fun p => mk' (bs + p)) (fun p => bo' (bs + p)) (fun p => ot' (bs + p)) n il (j + 1) (b + 1) j2 b2 ∧ ot' (bs + b) = nI (b2 + 1) ∧ (rChoiceB T np pt rel v).2.2.2.2.2.2 j = nI j2 ∧ ¬ pg b2 = nI 123 ∧ mk' (bs + b2) = nI 3 ∧ i' = j2 ∧ a' = b2 + 1))) ∨
    ((rChoiceB T np pt rel v).1 = false ∧ ∃ f, (rChoiceB T np pt rel v).2.1 = nI f ∧ Flt pg np bs (c, none, (false, a, none) :: S, v.2.1, mk, bo, ot) c f) := by
  have hnp := h.1
  have i160 : i3 < 160 := by omega
  have hZe := rAdd_eq hz i160 (nI 5) rel (nI 0)
  have hZc := AgC_add hz i160 (nI 5) rel (nI 0)
  obtain ⟨Z, hZ⟩ : ∃ Z, Z = rAdd v (nI 5) rel (nI 0) := ⟨_, rfl⟩
  rw [← hZ] at hZe hZc
  have hB : rChoiceB T np pt rel v = (if (pt Z).1 then (if (rSkip T np (nI 124) (pt Z).2).1 then (if (pt (rAim (rAdd (rSkip T np (nI 124) (pt Z).2).2 (nI 6) (nI 0) (nI 0)) v.2.2.1)).1 then rSkip T np (nI 125) (rAim (pt (rAim (rAdd (rSkip T np (nI 124) (pt Z).2).2 (nI 6) (nI 0) (nI 0)) v.2.2.1)).2 (rSkip T np (nI 124) (pt Z).2).2.2.2.1) else (false, (pt (rAim (rAdd (rSkip T np (nI 124) (pt Z).2).2 (nI 6) (nI 0) (nI 0)) v.2.2.1)).2)) else rSkip T np (nI 125) (rAim (rSkip T np (nI 124) (pt Z).2).2 v.2.2.1)) else (false, (pt Z).2)) := by rw [hZ]; rfl
  rw [hB, hz]
  clear hB
  have hZ1 : Z.1 = nI c := by rw [hZe]; exact hv
  have hZz : Z.2.2.1 = nI (i3 + 1) := by rw [hZe]
  have hZq : Z.2.1 = v.2.1 := by rw [hZe]
  rw [← hZq]
  rcases hpt none Z c (i3 + 1) mk bo ot hZ1 hZz (by omega) hc with ⟨g1, b, j, mk1, bo1, ot1, n1, g2, g3, g4⟩ | ⟨g1, f, g2, g3⟩
  · rw [if_pos g1]
    obtain ⟨y, hy⟩ : ∃ y, y = (pt Z).2 := ⟨_, rfl⟩
    rw [← hy] at g2 g3 g4 ⊢
    obtain ⟨o1, o2, o3, o4, o5, o6, o7, o8, m, o9, o10⟩ := g2
    have e124 := sg_eq h (a := b) (k := 124) (by omega) (by decide) (by decide)
    have e125 := sg_eq h (a := b) (k := 125) (by omega) (by decide) (by decide)
    have yD : y.2.2.2.1 i3 = nI 5 ∧ y.2.2.2.2.1 i3 = rel := by
      obtain ⟨q1, q2, _⟩ := o7 i3 (Nat.lt_succ_self _)
      rw [q1, q2, hZe]; exact ⟨upd_at .., upd_at ..⟩
    by_cases c1 : msgF pg np b = nI 124
    · have hlt := msg_lt c1 (by decide)
      have cb : pg b = nI 124 := (msg_v hlt).mp c1
      have j160 : j < 160 := by omega
      have hk : rSkip T np (nI 124) y = (true, rUp y) := by unfold rSkip; rw [o1, if_pos (e124.mpr c1)]
      rw [hk, if_pos rfl]
      have hyz : (rUp y).2.2.1 = nI j := o2
      have hWe := rAdd_eq hyz j160 (nI 6) (nI 0) (nI 0)
      have hWc : AgC j y (rAdd (rUp y) (nI 6) (nI 0) (nI 0)) := AgC_add hyz j160 (nI 6) (nI 0) (nI 0)
      obtain ⟨W, hW⟩ : ∃ W, W = rAdd (rUp y) (nI 6) (nI 0) (nI 0) := ⟨_, rfl⟩
      show (_ ∧ _) ∨ _
      rw [← hW] at hWe hWc
      have hWz : W.2.2.1 = nI (j + 1) := by rw [hWe]
      have hVe := rAim_eq hWz i160
      obtain ⟨V, hV⟩ : ∃ V, V = rAim W (nI i3) := ⟨_, rfl⟩
      rw [← hV] at hVe
      have hVV : rAim (rAdd ((true, rUp y) : Bool × RS).2 (nI 6) (nI 0) (nI 0)) (nI i3) = V := by rw [hV, hW]
      rw [hVV]
      have hV1 : V.1 = nI (b + 1) := by rw [hVe]; show W.1 = _; rw [hWe]; show y.1 + nI 1 = _; rw [o1, nI_add]
      have hVz : V.2.2.1 = nI (j + 1) := by rw [hVe]; exact hWz
      have hVq : V.2.1 = y.2.1 := by rw [hVe]; show W.2.1 = _; rw [hWe]; rfl
      have hs2 : pqStep pg np bs (b, none, (false, a, none) :: S, y.2.1, mk1, bo1, ot1) = (b + 1, none, (false, a, some b) :: S, V.2.1, upd (upd mk1 (bs + b) (nI 0)) (bs + b) (nI 2), bo1, ot1) := by
        rw [pqStep_n _ _ _ (by rw [cb]; decide), if_neg (by rw [cb]; decide), if_pos cb, hVq]
      have pA := PR_tr o10 (PR_1 hlt rfl hs2)
      have hM1 : AgM bs b (b + 1) mk1 bo1 ot1 (upd (upd mk1 (bs + b) (nI 0)) (bs + b) (nI 2)) bo1 ot1 := fun p hp => ⟨by rw [upd_ne _ _ (by omega), upd_ne _ _ (by omega)], rfl, rfl⟩
      rcases hpt (some b) V (b + 1) (j + 1) (upd (upd mk1 (bs + b) (nI 0)) (bs + b) (nI 2)) bo1 ot1 hV1 hVz (by omega) (by omega) with ⟨k1, b2, j2, mk2, bo2, ot2, n2, k2, k3, k4⟩ | ⟨k1, f, k2, k3⟩
      · rw [if_pos k1]
        obtain ⟨u, hu⟩ : ∃ u, u = (pt V).2 := ⟨_, rfl⟩
        rw [← hu] at k2 k3 k4 ⊢
        obtain ⟨q1, q2, q3, q4, q5, q6, q7, q8, m2, q9, q10⟩ := k2
        have hUe := rAim_eq q2 j160
        have hUU : rAim u ((true, rUp y) : Bool × RS).2.2.2.1 = (u.1, u.2.1, u.2.2.1, u.2.2.2.1, u.2.2.2.2.1, upd u.2.2.2.2.2 j (nI j2)) := by rw [← hUe, show ((true, rUp y) : Bool × RS).2.2.2.1 = nI j from o2]
        rw [hUU]
        obtain ⟨U, hU⟩ : ∃ U : RS, U = (u.1, u.2.1, u.2.2.1, u.2.2.2.1, u.2.2.2.2.1, upd u.2.2.2.2.2 j (nI j2)) := ⟨_, rfl⟩
        rw [← hU]
        have hU1 : U.1 = nI b2 := by rw [hU]; exact q1
        have e2 := sg_eq h (a := b2) (k := 125) (by omega) (by decide) (by decide)
        have pB := PR_tr pA q10
        unfold rSkip
        rw [hU1]
        by_cases c2 : msgF pg np b2 = nI 125
        · have hlt2 := msg_lt c2 (by decide)
          have cb2 : pg b2 = nI 125 := (msg_v hlt2).mp c2
          rw [if_pos (e2.mpr c2)]
          have hs3 : pqStep pg np bs (b2, none, (false, a, some b) :: S, u.2.1, mk2, bo2, ot2) = (b2 + 1, none, S, u.2.1, upd (upd mk2 (bs + b2) (nI 0)) (bs + b2) (nI 3), bo2, upd (upd ot2 (bs + a) (nI (b + 1))) (bs + b) (nI (b2 + 1))) := by
            rw [pqStep_s _ _ _ (by rw [cb2]; decide), if_pos cb2]; rfl
          have uV : ∀ k, k < j + 1 → u.2.2.2.1 k = V.2.2.2.1 k ∧ u.2.2.2.2.1 k = V.2.2.2.2.1 k ∧ u.2.2.2.2.2 k = V.2.2.2.2.2 k := q7
          have Vy : ∀ k, k < j → V.2.2.2.1 k = y.2.2.2.1 k ∧ V.2.2.2.2.1 k = y.2.2.2.2.1 k ∧ (¬ k = i3 → V.2.2.2.2.2 k = y.2.2.2.2.2 k) := fun k hk => by
            obtain ⟨w1, w2, w3⟩ := hWc k hk
            rw [hVe]
            exact ⟨w1, w2, fun q => (upd_ne _ _ q).trans w3⟩
          have Uu : ∀ k, U.2.2.2.1 k = u.2.2.2.1 k ∧ U.2.2.2.2.1 k = u.2.2.2.2.1 k ∧ (¬ k = j → U.2.2.2.2.2 k = u.2.2.2.2.2 k) := fun k => by rw [hU]; exact ⟨rfl, rfl, fun q => upd_ne _ _ q⟩
          refine Or.inl ⟨rfl, b2 + 1, j2, upd (upd mk2 (bs + b2) (nI 0)) (bs + b2) (nI 3), bo2, upd (upd ot2 (bs + a) (nI (b + 1))) (bs + b) (nI (b2 + 1)), m + 1 + m2 + 1, max n1 n2, j, b, ?_, ?_, by omega, by omega, by omega, by omega, ?_, ?_, by omega, ?_, ?_, ?_, ?_, by rw [cb]; decide, Or.inr ⟨?_, ?_, ?_, ?_, j2, b2, ?_, upd_at .., ?_, by rw [cb2]; decide, upd_at .., rfl, rfl⟩⟩
          · show U.1 + nI 1 = _; rw [hU1, nI_add]
          · show U.2.2.1 = _; rw [hU]; exact q2
          · intro k hk
            show U.2.2.2.1 k = _ ∧ U.2.2.2.2.1 k = _ ∧ U.2.2.2.2.2 k = _
            obtain ⟨a1, a2, a3⟩ := Uu k; obtain ⟨b1, b2, b3⟩ := uV k (by omega); obtain ⟨d1, d2, d3⟩ := Vy k (by omega); obtain ⟨f1, f2, f3⟩ := o7 k (by omega); obtain ⟨s1, s2, s3⟩ := hZc k hk
            exact ⟨a1.trans (b1.trans (d1.trans (f1.trans s1))), a2.trans (b2.trans (d2.trans (f2.trans s2))), (a3 (by omega)).trans (b3.trans ((d3 (by omega)).trans (f3.trans s3)))⟩
          · intro p hp
            obtain ⟨a1, a2, a3⟩ := q8 p (by omega); obtain ⟨b1, b2, b3⟩ := o8 p (by omega)
            refine ⟨?_, a2.trans b2, fun q => ?_⟩
            · rw [upd_ne _ _ (by omega), upd_ne _ _ (by omega), a1, upd_ne _ _ (by omega), upd_ne _ _ (by omega)]; exact b1
            · rw [upd_ne _ _ (by omega), upd_ne _ _ q]; exact a3.trans b3
          · rw [show (((true, rUp U) : Bool × RS).2.2.1) = u.2.1 from by show U.2.1 = _; rw [hU]]
            exact PR_tr pB (PR_1 hlt2 rfl hs3)
          · show U.2.2.2.1 i3 = _; rw [(Uu i3).1, (uV i3 (by omega)).1, (Vy i3 (by omega)).1]; exact yD.1
          · show U.2.2.2.2.1 i3 = _; rw [(Uu i3).2.1, (uV i3 (by omega)).2.1, (Vy i3 (by omega)).2.1]; exact yD.2
          · refine Seg_up (Nat.le_max_left n1 n2) _ _ _ _ _ (Seg_K n1 _ _ _ _ _ g4 (fun k r1 r2 => ?_) (fun p r1 r2 => ?_))
            · show U.2.2.2.1 k = _ ∧ U.2.2.2.2.1 k = _ ∧ U.2.2.2.2.2 k = _
              obtain ⟨a1, a2, a3⟩ := Uu k; obtain ⟨b1, b2, b3⟩ := uV k (by omega); obtain ⟨d1, d2, d3⟩ := Vy k (by omega)
              exact ⟨a1.trans (b1.trans d1), a2.trans (b2.trans d2), (a3 (by omega)).trans (b3.trans (d3 (by omega)))⟩
            · obtain ⟨a1, a2, a3⟩ := q8 (bs + p) (by omega)
              refine ⟨rfl, ?_, a2, ?_⟩
              · show upd _ _ _ (bs + p) = _
                rw [upd_ne _ _ (by omega), upd_ne _ _ (by omega), a1, upd_ne _ _ (by omega), upd_ne _ _ (by omega)]
              · show upd _ _ _ (bs + p) = _
                rw [upd_ne _ _ (by omega), upd_ne _ _ (by omega), a3]
          · rw [upd_ne _ _ (by omega), upd_ne _ _ (by omega), (q8 (bs + b) (by omega)).1, upd_at]
          · show U.2.2.2.1 j = _; rw [(Uu j).1, (uV j (by omega)).1, hVe]; show W.2.2.2.1 j = _; rw [hWe]; exact upd_at ..
          · show U.2.2.2.2.2 i3 = _; rw [(Uu i3).2.2 (by omega), (uV i3 (by omega)).2.2, hVe]; exact upd_at ..
          · rw [upd_ne _ _ (by omega), upd_at]
          · refine Seg_up (Nat.le_max_right n1 n2) _ _ _ _ _ (Seg_K n2 _ _ _ _ _ k4 (fun k r1 r2 => ?_) (fun p r1 r2 => ?_))
            · show U.2.2.2.1 k = _ ∧ U.2.2.2.2.1 k = _ ∧ U.2.2.2.2.2 k = _
              obtain ⟨a1, a2, a3⟩ := Uu k
              exact ⟨a1, a2, a3 (by omega)⟩
            · refine ⟨rfl, ?_, rfl, ?_⟩
              · show upd _ _ _ (bs + p) = _
                rw [upd_ne _ _ (by omega), upd_ne _ _ (by omega)]
              · show upd _ _ _ (bs + p) = _
                rw [upd_ne _ _ (by omega), upd_ne _ _ (by omega)]
          · show U.2.2.2.2.2 j = _; rw [hU]; exact upd_at ..
        · rw [if_neg (fun q => c2 (e2.mp q))]
          refine Or.inr ⟨rfl, b2, hU1, ?_⟩
          rcases (stop_iff h q1 q4).mp k3 with q | q | q | ⟨q, _⟩
          · exact ⟨by omega, m + 1 + m2, _, by omega, pB, Or.inr ⟨rfl, by show ¬ b2 < np; omega, rfl, Nat.succ_ne_zero _⟩⟩
          · have hlt2 := msg_lt q (by decide)
            have cb2 : pg b2 = nI 124 := (msg_v hlt2).mp q
            refine ⟨by omega, m + 1 + m2 + 1, _, by omega, PR_tr pB (PR_1 hlt2 rfl rfl), Or.inl ?_⟩
            rw [pqStep_s _ _ _ (by rw [cb2]; decide), if_neg (by rw [cb2]; decide), if_pos cb2]
          · exact absurd q c2
          · cases q
      · rw [if_neg (by rw [k1]; exact Bool.false_ne_true)]
        exact Or.inr ⟨rfl, f, k2, Flt_st pA (by omega) k3⟩
    · have hk : rSkip T np (nI 124) y = (false, y) := by unfold rSkip; rw [o1, if_neg (fun q => c1 (e124.mp q))]
      rw [hk, if_neg (show ¬ ((false, y) : Bool × RS).1 = true from Bool.false_ne_true)]
      have hUe := rAim_eq o2 i160
      show (_ ∧ _) ∨ _
      obtain ⟨U, hU⟩ : ∃ U, U = rAim y (nI i3) := ⟨_, rfl⟩
      rw [← hU] at hUe
      have hUU : rAim ((false, y) : Bool × RS).2 (nI i3) = U := hU.symm
      rw [hUU]
      have hU1 : U.1 = nI b := by rw [hUe]; exact o1
      unfold rSkip
      rw [hU1]
      by_cases c2 : msgF pg np b = nI 125
      · have hlt2 := msg_lt c2 (by decide)
        have cb2 : pg b = nI 125 := (msg_v hlt2).mp c2
        rw [if_pos (e125.mpr c2)]
        have hs3 : pqStep pg np bs (b, none, (false, a, none) :: S, y.2.1, mk1, bo1, ot1) = (b + 1, none, S, y.2.1, upd (upd mk1 (bs + b) (nI 0)) (bs + b) (nI 3), bo1, upd ot1 (bs + a) (nI (b + 1))) := by
          rw [pqStep_n _ _ _ (by rw [cb2]; decide), if_pos cb2]; rfl
        have Uy : ∀ k, U.2.2.2.1 k = y.2.2.2.1 k ∧ U.2.2.2.2.1 k = y.2.2.2.2.1 k ∧ (¬ k = i3 → U.2.2.2.2.2 k = y.2.2.2.2.2 k) := fun k => by rw [hUe]; exact ⟨rfl, rfl, fun q => upd_ne _ _ q⟩
        refine Or.inl ⟨rfl, b + 1, j, upd (upd mk1 (bs + b) (nI 0)) (bs + b) (nI 3), bo1, upd ot1 (bs + a) (nI (b + 1)), m + 1, n1, j, b, ?_, ?_, by omega, by omega, by omega, by omega, ?_, ?_, by omega, ?_, ?_, ?_, ?_, by rw [cb2]; decide, Or.inl ⟨upd_at .., ?_, upd_at .., rfl, rfl⟩⟩
        · show U.1 + nI 1 = _; rw [hU1, nI_add]
        · show U.2.2.1 = _; rw [hUe]; exact o2
        · intro k hk
          show U.2.2.2.1 k = _ ∧ U.2.2.2.2.1 k = _ ∧ U.2.2.2.2.2 k = _
          obtain ⟨a1, a2, a3⟩ := Uy k; obtain ⟨f1, f2, f3⟩ := o7 k (by omega); obtain ⟨s1, s2, s3⟩ := hZc k hk
          exact ⟨a1.trans (f1.trans s1), a2.trans (f2.trans s2), (a3 (by omega)).trans (f3.trans s3)⟩
        · intro p hp
          obtain ⟨b1, b2, b3⟩ := o8 p (by omega)
          refine ⟨?_, b2, fun q => ?_⟩
          · rw [upd_ne _ _ (by omega), upd_ne _ _ (by omega)]; exact b1
          · rw [upd_ne _ _ q]; exact b3
        · rw [show (((true, rUp U) : Bool × RS).2.2.1) = y.2.1 from by show U.2.1 = _; rw [hUe]]
          exact PR_tr o10 (PR_1 hlt2 rfl hs3)
        · show U.2.2.2.1 i3 = _; rw [(Uy i3).1]; exact yD.1
        · show U.2.2.2.2.1 i3 = _; rw [(Uy i3).2.1]; exact yD.2
        · refine Seg_K n1 _ _ _ _ _ g4 (fun k r1 r2 => ?_) (fun p r1 r2 => ?_)
          · show U.2.2.2.1 k = _ ∧ U.2.2.2.2.1 k = _ ∧ U.2.2.2.2.2 k = _
            obtain ⟨a1, a2, a3⟩ := Uy k
            exact ⟨a1, a2, a3 (by omega)⟩
          · refine ⟨rfl, ?_, rfl, ?_⟩
            · show upd _ _ _ (bs + p) = _
              rw [upd_ne _ _ (by omega), upd_ne _ _ (by omega)]
            · show upd _ _ _ (bs + p) = _
              rw [upd_ne _ _ (by omega)]
        · show U.2.2.2.2.2 i3 = _; rw [hUe]; exact upd_at ..
      · rw [if_neg (fun q => c2 (e125.mp q))]
        refine Or.inr ⟨rfl, b, hU1, ?_⟩
        rcases (stop_iff h o1 o4).mp g3 with q | q | q | ⟨q, _⟩
        · exact ⟨by omega, m, _, by omega, o10, Or.inr ⟨rfl, by show ¬ b < np; omega, rfl, Nat.succ_ne_zero _⟩⟩
        · exact absurd q c1
        · exact absurd q c2
        · cases q
  · rw [if_neg (by rw [g1]; exact Bool.false_ne_true)]
    exact Or.inr ⟨rfl, f, g2, g3⟩
end LC
