set_option maxHeartbeats 4000000 in
theorem s_template (l : Launch) (hl0 : l.stackTraces = false) (D : va_G) (cy : Nat → ClassId) (a0 : Int32) : SG l D cy LI yX7_template cX7_template 4 .int 30 10 600 [eIOB, eISE] yX8_template cX8_template 4 .int 7 [.int a0] := by
  intro t ad Ls st ht hI
  have hI9 := hI
  obtain ⟨np, g, nF, fm, fz, sz, nr, td, nB, nb, ln, us, nl, ha, hp, hf, hr, hm, hd, hb, hn⟩ := hI
  have hF6 : nF ≤ 6 := ha.2.2.2.2.2.2.2.2.2
  have hB30 : nB ≤ 30 := ha.2.2.2.2.2.2.2.2.1
  have hg := hf.1
  have hnp := hp.1
  have hPG : PG (ga st 11) (ga st 32) np := ⟨hp.1, hp.2.2.2⟩
  refine ⟨kTmpl nF a0, _, c_X7_template l hl0 D cy ad Ls st ha.1 (g := g) (by omega) (fun j hj => ha.2.2.2.2.2.1 g hg j hj) hf.2.1 np hp.2.1 5 rfl nF hF6 fm hf.2.2.2.2.1 hf.2.2.1 (nF + 1) (by omega) ha.2.2.2.2.2.2.2.1 (ha.2.2.2.2.2.2.1 (nF + 1) (Nat.lt_succ_self _)) a0, rfl, fun hK => ⟨_, c_X8_template l D cy ad Ls st ha.2.2.1 np hp.1 hp.2.2.1 nF hF6 hf.2.2.2.1 a0, fun rb u hpb => ?_⟩, fun r u hpost => ?_⟩
  · rcases hpb with ⟨h1, h2, h3⟩ | ⟨h1, _⟩
    · subst h3; exact ⟨by rw [k_eTmpl hF6]; rfl, LI_thr hI9 _⟩
    · exact absurd ((k_eTmpl hF6 a0).trans h1) hK
  · obtain ⟨hK, hr0, hu⟩ := hpost
    have hK9 := hK; rw [k_eTmpl hF6] at hK9
    have T0 := tmU_rd st g nF np 5
    have RR : ∀ bs mk bo ot, (∃ f, (pqRd (ga st 32) np bs mk bo ot).2.1 = some f ∧ rpA np (rdR st g np 5) = (-1) - nI f ∧ f ≤ np + 1) ∨
      ((pqRd (ga st 32) np bs mk bo ot).2.1 = none ∧ rpA np (rdR st g np 5) = (pqRd (ga st 32) np bs mk bo ot).2.2.2.1 ∧ (∃ q, q ≤ np ∧ (pqRd (ga st 32) np bs mk bo ot).2.2.2.1 = nI q) ∧
        ∃ i' n, i' ≤ np ∧ (rdR st g np 5).2.2.2.1 = nI i' ∧ Seg (rdR st g np 5).2.2.2.2.1 (rdR st g np 5).2.2.2.2.2.1 (rdR st g np 5).2.2.2.2.2.2 (ga st 32) (fun p => (pqRd (ga st 32) np bs mk bo ot).2.2.2.2.1 (bs + p)) (fun p => (pqRd (ga st 32) np bs mk bo ot).2.2.2.2.2.1 (bs + p)) (fun p => (pqRd (ga st 32) np bs mk bo ot).2.2.2.2.2.2 (bs + p)) n false 0 0 i' np) := fun bs mk bo ot => read_eq (bs := bs) hPG (nI 0, nI 0, nI 0, ga st (300 + 4 * g + 1), ga st (300 + 4 * g + 2), ga st (300 + 4 * g + 3)) rfl rfl rfl mk bo ot
    have hM := pqRd_K (pg := ga st 32) (np := np) (bs := 960) (ga st 36) (ga st 37) (ga st 38)
    rcases hu with ⟨hneg, hu⟩ | ⟨hpos, j, ej, hu⟩
    · subst hu
      rcases RR 960 (ga st 36) (ga st 37) (ga st 38) with ⟨f, f1, f2, f3⟩ | ⟨_, e2, ⟨q, q1, q2⟩, _⟩
      · refine ⟨hK, rfl, rfl, rfl, fun k h => h, fun u9 hu9 => ?_⟩
        have v30 : ∀ f, gi u9 f 30 = gi st f 30 := fun f => by rw [hu9, gi_sl]; exact T0.1 f 30 (by omega)
        have vA : ∀ k, k < 300 → ga u9 k = ga st k := fun k h => by rw [hu9, ga_sl]; exact T0.2.1 k h
        refine ⟨_, c_X8_template l D cy ad Ls u9 ha.2.2.1 np hp.1 ((v30 1).trans hp.2.2.1) nF hF6 ((v30 3).trans hf.2.2.2.1) a0, fun rb u2 h2 => ?_⟩
        rw [vA 32 (by decide), vA 36 (by decide), vA 37 (by decide), vA 38 (by decide)] at h2
        rcases h2 with ⟨h1, _⟩ | ⟨_, j, al1, bg1, mi1, hj6, hjn, ej, ⟨f2', e1, e2, e3⟩ | ⟨e1, _⟩⟩
        · exact absurd hK9 h1
        · rw [f1] at e1; cases e1
          refine ⟨by rw [e3, gi_si, if_neg (by decide), rq_gi (by decide), gi_si, if_pos ⟨rfl, rfl⟩], by rw [e2, hr0, f2], ?_, ?_⟩
          · rw [e3]; show gl u9 0 90 = _; rw [hu9, gl_sl, if_pos ⟨rfl, rfl⟩]
          · refine tm_F (v := r.toInt64) ha hf hr hm hd hb hn T0 (fun _ _ => rfl) (fun _ => rfl) ?_ ?_ (by rw [e3, hu9])
            · exact rdU_3 st g np 5
            · exact fun p hp9 => hM p (by omega)
        · rw [f1] at e1; cases e1
      · rw [hr0, e2, q2] at hneg; exact absurd hneg (nI_pos (by omega))
    · rcases RR 960 (ga st 36) (ga st 37) (ga st 38) with ⟨f, f1, f2, f3⟩ | ⟨f1, _, ⟨q, q1, q2⟩, _⟩
      · exact absurd (by rw [hr0, f2]; exact neg_f f (by omega)) hpos
      · have hMj := pqRd_K (pg := ga st 32) (np := np) (bs := 160 * j) (pqRd (ga st 32) np 960 (ga st 36) (ga st 37) (ga st 38)).2.2.2.2.1 (pqRd (ga st 32) np 960 (ga st 36) (ga st 37) (ga st 38)).2.2.2.2.2.1 (pqRd (ga st 32) np 960 (ga st 36) (ga st 37) (ga st 38)).2.2.2.2.2.2
        have hMM : ∀ p, p < 960 → (p < 160 * j ∨ 160 * j + 160 ≤ p) → (pqRd (ga st 32) np (160 * j) (pqRd (ga st 32) np 960 (ga st 36) (ga st 37) (ga st 38)).2.2.2.2.1 (pqRd (ga st 32) np 960 (ga st 36) (ga st 37) (ga st 38)).2.2.2.2.2.1 (pqRd (ga st 32) np 960 (ga st 36) (ga st 37) (ga st 38)).2.2.2.2.2.2).2.2.2.2.1 p = ga st 36 p ∧ (pqRd (ga st 32) np (160 * j) (pqRd (ga st 32) np 960 (ga st 36) (ga st 37) (ga st 38)).2.2.2.2.1 (pqRd (ga st 32) np 960 (ga st 36) (ga st 37) (ga st 38)).2.2.2.2.2.1 (pqRd (ga st 32) np 960 (ga st 36) (ga st 37) (ga st 38)).2.2.2.2.2.2).2.2.2.2.2.1 p = ga st 37 p ∧ (pqRd (ga st 32) np (160 * j) (pqRd (ga st 32) np 960 (ga st 36) (ga st 37) (ga st 38)).2.2.2.2.1 (pqRd (ga st 32) np 960 (ga st 36) (ga st 37) (ga st 38)).2.2.2.2.2.1 (pqRd (ga st 32) np 960 (ga st 36) (ga st 37) (ga st 38)).2.2.2.2.2.2).2.2.2.2.2.2 p = ga st 38 p := fun p h1 h2 => by
          obtain ⟨x1, x2, x3⟩ := hMj p (by omega)
          obtain ⟨y1, y2, y3⟩ := hM p (Or.inl h1)
          exact ⟨x1.trans y1, x2.trans y2, x3.trans y3⟩
        rcases RR (160 * j) (pqRd (ga st 32) np 960 (ga st 36) (ga st 37) (ga st 38)).2.2.2.2.1 (pqRd (ga st 32) np 960 (ga st 36) (ga st 37) (ga st 38)).2.2.2.2.2.1 (pqRd (ga st 32) np 960 (ga st 36) (ga st 37) (ga st 38)).2.2.2.2.2.2 with ⟨f, g1, g2, g3⟩ | ⟨g1, g2, _, i2, n2, g3, g4, g5⟩
        · exact absurd (by rw [hr0, g2]; exact neg_f f (by omega)) hpos
        · rcases hu with ⟨hjn, hu⟩ | ⟨hjn, ad2, had, hu⟩
          · subst hu
            have T1 := tmU_S1 T0 (some (300 + 4 * fm j)) (fun z => if z = j then some (300 + 4 * g) else gb (sp (rdU st g np 5) 1 1 (some (300 + 4 * fm j))) 6 z)
            refine ⟨hK, rfl, rfl, rfl, fun k h => h, fun u9 hu9 => ?_⟩
            have v30 : ∀ f, gi u9 f 30 = gi st f 30 := fun f => by rw [hu9, gi_sl]; exact T1.1 f 30 (by omega)
            have vA : ∀ k, k < 300 → ga u9 k = ga st k := fun k h => by rw [hu9, ga_sl]; exact T1.2.1 k h
            refine ⟨_, c_X8_template l D cy ad Ls u9 ha.2.2.1 np hp.1 ((v30 1).trans hp.2.2.1) nF hF6 ((v30 3).trans hf.2.2.2.1) a0, fun rb u2 h2 => ?_⟩
            rw [vA 32 (by decide), vA 36 (by decide), vA 37 (by decide), vA 38 (by decide)] at h2
            rcases h2 with ⟨h1, _⟩ | ⟨_, j2, al1, bg1, mi1, hj6, hjn2, ej2, ⟨f2', e1, e2, e3⟩ | ⟨e1, e2, e3⟩⟩
            · exact absurd hK9 h1
            · rw [f1] at e1; cases e1
            · obtain rfl : j = j2 := (nI_eq (by omega) (by omega)).mp (ej.symm.trans ej2)
              refine ⟨?_, by rw [e2, hr0, g2], ?_, ?_⟩
              · rw [e3]; unfold mtZ; rw [gi_si, if_neg (by decide), gi_si, if_neg (by decide), gi_sa, gi_sa, rq_gi (by decide), gi_si, if_pos ⟨rfl, rfl⟩]
              · rw [e3]; show gl u9 0 90 = _; rw [hu9, gl_sl, if_pos ⟨rfl, rfl⟩]
              · rw [hu9] at e3
                refine tm_S (v := r.toInt64) (g2 := fm j) (nF2 := nF) ha hp hf hr hm hd hb hn T1 (Or.inl ⟨hjn, rfl, rfl⟩) hF6 g3 rfl ((rdU_3 st g np 5).trans hf.2.2.1) (fun z => rfl) ⟨AgO_rf, hMM⟩ g4 g5 e3 ?_
                obtain ⟨a1, a2, a3, a4, a5, a6, a7, a8, a9, a10⟩ := ha
                refine ⟨a1, a2, a3, a4, a5, a6, a7, ?_, a9, a10⟩
                have hx := xCl_app (N := []) (u := u2) a8 (fun f k i _ h => ?_) (fun k i i2 _ h => ?_) (fun k h => by cases h)
                · rwa [List.append_nil] at hx
                · rw [e3] at h
                  change (if f = 1 ∧ k = 1 then some (300 + 4 * fm j) else gp st f k) = some i at h
                  split at h
                  · cases h; exact Or.inr (List.mem_append_left _ (a6 (fm j) (hf.2.2.2.2.2.1 j hjn).1 0 (by decide)))
                  · exact Or.inl h
                · rw [e3] at h
                  change (if k = 6 then (fun z => if z = j then some (300 + 4 * g) else gb st 6 z) else gb st k) i = some i2 at h
                  split at h
                  · next e =>
                    change (if i = j then some (300 + 4 * g) else gb st 6 i) = some i2 at h
                    split at h
                    · cases h; exact Or.inr (List.mem_append_left _ (a6 g hg 0 (by decide)))
                    · rw [e]; exact Or.inl h
                  · exact Or.inl h
          · subst hu
            have T1 := tmU_S2 T0 hg (some (300 + 4 * (nF + 1))) (fun z => if z = j then some (300 + 4 * g) else gb (sp (stF0 (rdU st g np 5) (nF + 1)) 1 1 (some (300 + 4 * (nF + 1)))) 6 z) (nI (nF + 1))
            refine ⟨hK, had 0 (ha.1 0 rfl), had 30 (ha.2.2.1 30 (by decide)), had 90 ha.2.1, fun k hk => List.mem_append_left _ hk, fun u9 hu9 => ?_⟩
            have v30 : ∀ f, gi u9 f 30 = gi st f 30 := fun f => by rw [hu9, gi_sl]; exact T1.1 f 30 (by omega)
            have vA : ∀ k, k < 300 → ga u9 k = ga st k := fun k h => by rw [hu9, ga_sl]; exact T1.2.1 k h
            refine ⟨_, c_X8_template l D cy ad2 (Ls ++ LsF (nF + 1)) u9 (fun k hk => List.mem_append_left _ (ha.2.2.1 k hk)) np hp.1 ((v30 1).trans hp.2.2.1) nF hF6 ((v30 3).trans hf.2.2.2.1) a0, fun rb u2 h2 => ?_⟩
            rw [vA 32 (by decide), vA 36 (by decide), vA 37 (by decide), vA 38 (by decide)] at h2
            rcases h2 with ⟨h1, _⟩ | ⟨_, j2, al1, bg1, mi1, hj6, hjn2, ej2, ⟨f2', e1, e2, e3⟩ | ⟨e1, e2, e3⟩⟩
            · exact absurd hK9 h1
            · rw [f1] at e1; cases e1
            · obtain rfl : j = j2 := (nI_eq (by omega) (by omega)).mp (ej.symm.trans ej2)
              refine ⟨?_, by rw [e2, hr0, g2], ?_, ?_⟩
              · rw [e3]; unfold mtZ; rw [gi_si, if_neg (by decide), gi_si, if_neg (by decide), gi_sa, gi_sa, rq_gi (by decide), gi_si, if_pos ⟨rfl, rfl⟩]
              · rw [e3]; show gl u9 0 90 = _; rw [hu9, gl_sl, if_pos ⟨rfl, rfl⟩]
              · rw [hu9] at e3
                refine tm_S (v := r.toInt64) (g2 := nF + 1) (nF2 := nF + 1) ha hp hf hr hm hd hb hn T1 (Or.inr ⟨hjn, rfl, rfl⟩) (by omega) g3 rfl (by rw [gi_si, if_pos ⟨rfl, rfl⟩]) (fun z => rfl) ⟨AgO_rf, hMM⟩ g4 g5 e3 ?_
                obtain ⟨a1, a2, a3, a4, a5, a6, a7, a8, a9, a10⟩ := ha
                refine ⟨fun k h => List.mem_append_left _ (a1 k h), List.mem_append_left _ a2, fun k h => List.mem_append_left _ (a3 k h), fun b h i hi => List.mem_append_left _ (a4 b h i hi), fun b h1 h2 k hk hq => ?_, fun f h i hi => ?_, fun f h k hk hq => ?_, ?_, a9, by omega⟩
                · rcases List.mem_append.mp hq with hq | hq
                  · exact a5 b h1 h2 k hk hq
                  · obtain ⟨i, h3, h4⟩ := LsB_iff.mp hk; obtain ⟨i2, h5, h6⟩ := LsF_iff.mp hq; omega
                · by_cases e : f ≤ nF
                  · exact List.mem_append_left _ (a6 f e i hi)
                  · rw [show f = nF + 1 by omega]; exact List.mem_append_right _ (LsF_mem hi)
                · rcases List.mem_append.mp hq with hq | hq
                  · exact a7 f (by omega) k hk hq
                  · obtain ⟨i, h3, h4⟩ := LsF_iff.mp hk; obtain ⟨i2, h5, h6⟩ := LsF_iff.mp hq; omega
                · refine xCl_app (u := u2) a8 (fun f k i _ h => ?_) (fun k i i2 _ h => ?_) (xCl_LsF (by omega))
                  · rw [e3] at h
                    change (if f = 1 ∧ k = 1 then some (300 + 4 * (nF + 1)) else gp st f k) = some i at h
                    split at h
                    · cases h; exact Or.inr (List.mem_append_right _ (LsF_mem (j := 0) (by decide)))
                    · exact Or.inl h
                  · rw [e3] at h
                    change (if k = 6 then (fun z => if z = j then some (300 + 4 * g) else gb st 6 z) else gb st k) i = some i2 at h
                    split at h
                    · next e =>
                      change (if i = j then some (300 + 4 * g) else gb st 6 i) = some i2 at h
                      split at h
                      · cases h; exact Or.inr (List.mem_append_left _ (a6 g hg 0 (by decide)))
                      · rw [e]; exact Or.inl h
                    · exact Or.inl h
