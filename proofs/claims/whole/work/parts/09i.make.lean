/-! ===== make keeps the invariant ===== -/
theorem ntS_c {st u : XS} {b : Nat} (h1 : ga u 72 = ga st 72) (h2 : ga u 73 = ga st 73) (n : Nat) : ntS u b n = ntS st b n := ntS_K h1 h2 n
set_option maxHeartbeats 2000000 in
theorem make_LI {t : Nat} {Ls : List Nat} {st : XS} {np g nF : Nat} {fm fz sz : Nat → Nat} {nr td nB nb : Nat} {ln : Nat → Nat} {us : Nat → Option Nat} {nl : Nat} (ha : LIa Ls nB nF st) (hp : LIp st np) (hf : LIf st g nF fm fz sz) (hr : LIr st nr) (hm : LIm st t td) (hd : LId st nB nb) (hb : LIb st nr t nB ln us) (hn : LIn st nB nl)
    (hnb : 0 < nb) (hB : nB < 30) {j p : Nat} (hj : j < 10) (hp4 : p < 4) (hc8 : ga st 8 j = nI p) {v : Int64} {dk : Nat → Nat} (hdk : ∀ k, k < nb → dk k < 4 ∧ ga st 55 k = nI (dk k)) : LI (t + 1) (Ls ++ LsB (nB + 1)) (mkZ (sl (mk7 st nr nB nb (nI j)) 0 90 v) nr nB nb p dk (nI j) (nI td)) := by
  obtain ⟨Y, hY⟩ : ∃ Y, Y = mk7 st nr nB nb (nI j) := ⟨_, rfl⟩
  rw [← hY]
  obtain ⟨U, hU⟩ : ∃ U, U = sl Y 0 90 v := ⟨_, rfl⟩
  rw [← hU]
  obtain ⟨Z, hZ⟩ : ∃ Z, Z = mkZ U nr nB nb p dk (nI j) (nI td) := ⟨_, rfl⟩
  rw [← hZ]
  have hd6 := hd.1
  have hx8 : xget 10 (ga st 8) (nI j) = nI p := by rw [xget_at hj (by decide)]; exact hc8
  -- Y
  have yo : ∀ f k, ¬ k = 100 + 6 * (nB + 1) → ¬ k = 100 + 6 * nB → ¬ (f = 10 ∧ k = 0) → gi Y f k = gi st f k := fun f k h1 h2 h3 => by
    rw [hY, mk_gi, if_neg h1, if_neg h3, if_neg (fun q => h2 q.2), if_neg (fun q => h2 q.2), if_neg (fun q => h2 q.2), if_neg (fun q => h2 q.2), if_neg (fun q => h2 q.2), if_neg (fun q => h2 q.2)]
  have yN : ∀ f, gi Y f (100 + 6 * (nB + 1)) = 0 := fun f => by rw [hY, mk_gi, if_pos rfl]
  have yga : ∀ k, ¬ (100 + 6 * (nB + 1) ≤ k ∧ k < 100 + 6 * (nB + 1) + 6) → ¬ k = 100 + 6 * nB + 4 → ¬ k = 100 + 6 * nB + 5 → ga Y k = ga st k := fun k h1 h2 h3 => by
    rw [hY, mk_ga, if_neg h1, mk3_ga h2 h3]
  have uga : ∀ k, ga U k = ga Y k := fun k => by rw [hU]; rfl
  have ugi : ∀ f k, gi U f k = gi Y f k := fun f k => by rw [hU]; rfl
  -- Z
  have zgi : ∀ f k, ¬ k = 30 → gi Z f k = gi Y f k := fun f k h => by rw [hZ, mz_gi, if_neg (fun q => h q.2), if_neg (fun q => h q.2), if_neg (fun q => h q.2)]; exact ugi f k
  have z30 : ∀ f, ¬ f = 28 → ¬ f = 24 → ¬ f = 0 → gi Z f 30 = gi st f 30 := fun f h1 h2 h3 => by
    rw [hZ, mz_gi, if_neg (fun q => h1 q.1), if_neg (fun q => h2 q.1), if_neg (fun q => h3 q.1), ugi]; exact yo f 30 (by omega) (by omega) (by omega)
  have zo : ∀ f k, ¬ k = 30 → ¬ k = 100 + 6 * (nB + 1) → ¬ k = 100 + 6 * nB → ¬ (f = 10 ∧ k = 0) → gi Z f k = gi st f k := fun f k h0 h1 h2 h3 => (zgi f k h0).trans (yo f k h1 h2 h3)
  have zgY : ∀ k, ¬ (58 < k ∧ k < 71) → ga Z k = ga Y k := fun k h => by
    rw [hZ, mz_ga, if_neg (by omega), if_neg (by omega), if_neg (by omega), if_neg (by omega), if_neg (by omega), if_neg (by omega), if_neg (by omega), if_neg (by omega), if_neg (by omega), if_neg (by omega), if_neg (by omega), if_neg (by omega)]; exact uga k
  have zga : ∀ k, ¬ (58 < k ∧ k < 71) → ¬ (100 + 6 * (nB + 1) ≤ k ∧ k < 100 + 6 * (nB + 1) + 6) → ¬ k = 100 + 6 * nB + 4 → ¬ k = 100 + 6 * nB + 5 → ga Z k = ga st k := fun k h0 h1 h2 h3 => (zgY k h0).trans (yga k h1 h2 h3)
  have us9 : ∀ k, k < 100 → ga U k = ga st k := fun k h => (uga k).trans (yga k (by omega) (by omega) (by omega))
  have zgp : ∀ f k, gp Z f k = if f = 8 ∧ k = 0 then some (100 + 6 * (nB + 1)) else gp st f k := fun f k => by rw [hZ, mz_gp, hU, hY]; exact mk_gp f k
  have zgb : ∀ k, gb Z k = if k = 9 then (fun z => if z = nB then some (100 + 6 * nB) else gb st 9 z) else gb st k := fun k => by rw [hZ, mz_gb, hU, hY]; exact mk_gb k
  have rE : RtE st U nr := ⟨hr.1, fun i hi => by
    obtain ⟨b1, b2, b3, b4, _, b5⟩ := hr.2.2.2 i hi
    rw [us9 48 (by decide), us9 49 (by decide), us9 50 (by decide), us9 51 (by decide)]; exact ⟨b1, b2, b3, b4, b5⟩⟩
  have td9 : gi st 4 0 = nI td := hm.2.1
  -- the new us
  obtain ⟨us2, hus2⟩ : ∃ us2 : Nat → Option Nat, us2 = fun i => if 6 * nB ≤ i ∧ i < 6 * nB + nb then mkT U nr p (nI td) (i - 6 * nB) else us i := ⟨_, rfl⟩
  have us_old : ∀ i, i < 6 * nB → us2 i = us i := fun i h => by rw [hus2]; exact if_neg (by omega)
  have us_new : ∀ k, k < nb → us2 (6 * nB + k) = mtS U nr (nI p) (ga st 55 k) (nI td) := fun k h => by
    rw [hus2]; show (if _ then _ else _) = _; rw [if_pos (by omega), Nat.add_sub_cancel_left]; unfold mkT; rw [us9 55 (by decide)]
  refine ⟨np, g, nF, fm, fz, sz, nr, td, nB + 1, 0, lnX nB nb ln, us2, nl, ?_, ?_, ?_, ?_, ?_, ?_, ?_, ?_⟩
  · obtain ⟨a1, a2, a3, a4, a5, a6, a7, a8, a9, a10⟩ := ha
    refine ⟨fun k h => List.mem_append_left _ (a1 k h), List.mem_append_left _ a2, fun k h => List.mem_append_left _ (a3 k h), fun b h i hi => ?_, fun b h1 h2 k hk hq => ?_, fun f h i hi => List.mem_append_left _ (a6 f h i hi), fun f h k hk hq => ?_, ?_, by omega, a10⟩
    · by_cases e : b ≤ nB
      · exact List.mem_append_left _ (a4 b e i hi)
      · rw [show b = nB + 1 by omega]; exact List.mem_append_right _ (LsB_mem hi)
    · rcases List.mem_append.mp hq with hq | hq
      · exact a5 b (by omega) h2 k hk hq
      · obtain ⟨i, h3, h4⟩ := LsB_iff.mp hk; obtain ⟨i2, h5, h6⟩ := LsB_iff.mp hq; omega
    · rcases List.mem_append.mp hq with hq | hq
      · exact a7 f h k hk hq
      · obtain ⟨i, h3, h4⟩ := LsF_iff.mp hk; obtain ⟨i2, h5, h6⟩ := LsB_iff.mp hq; omega
    · refine xCl_app a8 (fun f k i _ h => ?_) (fun k i i2 _ h => ?_) (xCl_LsB (by omega))
      · rw [zgp] at h
        split at h
        · cases h; exact Or.inr (List.mem_append_right _ (LsB_mem (j := 0) (by decide)))
        · exact Or.inl h
      · rw [zgb] at h
        split at h
        · next e =>
          change (if i = nB then some (100 + 6 * nB) else gb st 9 i) = some i2 at h
          split at h
          · cases h; exact Or.inr (List.mem_append_left _ (a4 nB (Nat.le_refl _) 0 (by decide)))
          · rw [e]; exact Or.inl h
        · exact Or.inl h
  · exact LIp_K (zo 1 2 (by omega) (by omega) (by omega) (by omega)) (z30 1 (by decide) (by decide) (by decide)) (zga 11 (by omega) (by omega) (by omega) (by omega)) (zga 32 (by omega) (by omega) (by omega) (by omega)) hp
  · exact LIf_K (by rw [zgp, if_neg (by decide)]) (zo 3 0 (by omega) (by omega) (by omega) (by omega)) (z30 3 (by decide) (by decide) (by decide)) (by rw [zgb, if_neg (by decide)]) (fun f h => zo 3 _ (by omega) (by omega) (by omega) (by omega)) (fun f h i h1 h2 => zga _ (by omega) (by omega) (by omega) (by omega)) (zga 34 (by omega) (by omega) (by omega) (by omega)) (zga 35 (by omega) (by omega) (by omega) (by omega)) (zga 36 (by omega) (by omega) (by omega) (by omega)) (zga 37 (by omega) (by omega) (by omega) (by omega)) (zga 38 (by omega) (by omega) (by omega) (by omega)) hf
  · exact LIr_K (zo 4 4 (by omega) (by omega) (by omega) (by omega)) (z30 17 (by decide) (by decide) (by decide)) (zga 13 (by omega) (by omega) (by omega) (by omega)) (zga 14 (by omega) (by omega) (by omega) (by omega)) (zga 15 (by omega) (by omega) (by omega) (by omega)) (zga 16 (by omega) (by omega) (by omega) (by omega)) (zga 48 (by omega) (by omega) (by omega) (by omega)) (zga 49 (by omega) (by omega) (by omega) (by omega)) (zga 50 (by omega) (by omega) (by omega) (by omega)) (zga 51 (by omega) (by omega) (by omega) (by omega)) hr
  · exact LIm_K (Nat.le_succ _) (zo 4 0 (by omega) (by omega) (by omega) (by omega)) (z30 16 (by decide) (by decide) (by decide)) (zga 52 (by omega) (by omega) (by omega) (by omega)) (zga 53 (by omega) (by omega) (by omega) (by omega)) (zga 7 (by omega) (by omega) (by omega) (by omega)) (zga 8 (by omega) (by omega) (by omega) (by omega)) hm
  · exact ⟨Nat.zero_le _, by rw [zgp, if_pos ⟨rfl, rfl⟩], (zgi 3 _ (by omega)).trans (yN 3), by rw [hZ, mz_gi, if_neg (by decide), if_pos ⟨rfl, rfl⟩], (zgi 12 _ (by omega)).trans (yN 12), fun i hi => absurd hi (Nat.not_lt_zero _)⟩
  · obtain ⟨b1, b2, b3, b4, b5⟩ := id hb
    refine ⟨?_, by rw [hZ, mz_gi, if_pos ⟨rfl, rfl⟩], fun i hi => ?_, fun b h => ?_, fun i hi => ?_⟩
    · rw [zgi 10 0 (by omega), hY, mk_gi, if_neg (by omega), if_pos ⟨rfl, rfl⟩]
    · rw [zgb, if_pos rfl]
      by_cases e : i = nB
      · subst e; rw [if_pos (Nat.lt_succ_self _)]; exact if_pos rfl
      · refine (if_neg e).trans ((b3 i hi).trans ?_)
        by_cases e2 : i < nB
        · rw [if_pos e2, if_pos (by omega)]
        · rw [if_neg e2, if_neg (by omega)]
    · by_cases e : b = nB
      · subst e
        obtain ⟨w, hw3, hw⟩ := (hm.2.2.2.1 p hp4).2
        have hw52 := (hm.2.2.2.1 p hp4).1
        have g8 : gi Y 8 (100 + 6 * b) = nI w := by
          rw [hY, mk_gi, if_neg (by omega), if_neg (by omega), if_neg (by omega), if_pos ⟨rfl, rfl⟩, hx8, xget_at hp4 (by decide)]; exact hw
        have hL : ∀ k, k < nb → ∃ kk q pr, kk < 4 ∧ 1 ≤ q ∧ q ≤ 99 ∧ 1 ≤ pr ∧ pr ≤ 9999 ∧ dk k = kk ∧ ga st (100 + 6 * b + 1) k = nI kk ∧ ga st 55 k = nI kk ∧ ga st (100 + 6 * b + 2) k = nI q ∧ ga st 56 k = nI q ∧ ga st (100 + 6 * b + 3) k = nI pr ∧ ga st 57 k = nI pr := fun k hk => by
          obtain ⟨kk, q, pr, h1, h2, h3, h4, h5, h6, h7, h8, h9, h10, h11⟩ := hd.2.2.2.2.2 k hk
          obtain ⟨d1, d2⟩ := hdk k hk
          exact ⟨kk, q, pr, h1, h2, h3, h4, h5, (nI_eq (by omega) (by omega)).mp (d2.symm.trans h7), h6, h7, h8, h9, h10, h11⟩
        have hRk : ∀ kk, kk < 4 → ga (mk3 st nr b (nI j)) (100 + 6 * b + 5) kk = mrS U (mtS U nr (nI p) (nI kk) (nI td)) := fun kk hk => by
          rw [mk3_R (by omega) hk, rt_mr rE, hx8, td9]
        have hTm : TmN (bK (mk3 st nr b (nI j)) b) (bQ (mk3 st nr b (nI j)) b) (bP (mk3 st nr b (nI j)) b) (ga (mk3 st nr b (nI j)) (100 + 6 * b + 5)) nb := TmN_of hd6 (fun k hk => by
          obtain ⟨kk, q, pr, h1, h2, h3, h4, h5, h6, h7, h8, h9, h10, h11, h12⟩ := hL k hk
          have ho : ∃ r, r ≤ 100 ∧ mrS U (mtS U nr (nI p) (nI kk) (nI td)) = nI r := by
            rcases ho : mtS U nr (nI p) (nI kk) (nI td) with _ | i
            · exact ⟨0, by decide, rfl⟩
            · obtain ⟨_, _, c3, _, ⟨h, c5, c6⟩, _⟩ := hr.2.2.2 i (mtS_lt ho)
              exact ⟨h, c5, by show ga U 50 i = _; rw [us9 50 (by decide)]; exact c3.trans c6⟩
          obtain ⟨r, hr1, hr2⟩ := ho
          refine ⟨kk, q, pr, r, h1, h3, h5, hr1, ?_, ?_, ?_, (hRk kk h1).trans hr2⟩
          · unfold bK; rw [mk3_ga (by omega) (by omega)]; exact h7
          · unfold bQ; rw [mk3_ga (by omega) (by omega)]; exact h9
          · unfold bP; rw [mk3_ga (by omega) (by omega)]; exact h11)
        obtain ⟨x, hx1, hx2⟩ := txB_N hTm (gi (mk3 st nr b (nI j)) 8 (100 + 6 * b))
        have g11 : gi Y 11 (100 + 6 * b) = nI x := by
          rw [hY, mk_gi, if_neg (by omega), if_neg (by omega), if_pos ⟨rfl, rfl⟩]; exact hx2
        have hE : mtxN (mkV U nr b nb p (nI j) (nI td) nb) dk b nb = nI x := by
          refine (tx_eq (w := gi (mk3 st nr b (nI j)) 8 (100 + 6 * b)) ⟨hd6, fun k hk => ?_⟩ ?_).symm.trans hx2
          · obtain ⟨kk, q, pr, h1, h2, h3, h4, h5, h6, h7, h8, h9, h10, h11, h12⟩ := hL k hk
            refine ⟨by omega, ?_, ?_, ?_, ?_⟩
            · unfold bK; rw [mk3_ga (by omega) (by omega), h6]; exact h7
            · rw [mv_ga, if_neg (by decide), if_neg (by decide), if_neg (by decide), if_pos rfl, fcp_in hk, us9 56 (by decide)]
              unfold bQ; rw [mk3_ga (by omega) (by omega)]; exact h10.trans h9.symm
            · rw [mv_ga, if_neg (by decide), if_neg (by decide), if_pos rfl, fcp_in hk, us9 57 (by decide)]
              unfold bP; rw [mk3_ga (by omega) (by omega)]; exact h12.trans h11.symm
            · rw [mv_ga, if_pos rfl, fup_in hk, h6, hRk kk h1]; unfold mkT; rw [us9 55 (by decide), h8]
          · rw [mv_ga, if_neg (by decide), if_neg (by decide), if_neg (by decide), if_neg (by decide), if_neg (by decide), if_pos rfl, upd_at, us9 52 (by decide), mk3_8, hx8, xget_at hp4 (by decide)]; exact hw52
        have hln : lnX b nb ln b = nb := if_pos rfl
        rw [hln]
        refine ⟨hnb, hd6, ?_, ?_, ?_, ⟨j, hj, ?_, ?_⟩, ⟨td, by have := hm.1; omega, ?_, ?_⟩, ⟨p, hp4, ?_, ?_⟩, ⟨w, hw3, (zgi 8 _ (by omega)).trans g8, ?_⟩, ⟨x, hx1, (zgi 11 _ (by omega)).trans g11, ?_⟩, fun k hk => ?_⟩
        · rw [zgi 3 _ (by omega), hY, mk_gi, if_neg (by omega), if_neg (by omega), if_neg (by omega), if_neg (by omega), if_neg (by omega), if_neg (by omega), if_neg (by omega), if_neg (by omega)]; exact hd.2.2.1
        · rw [hZ, mz_ga]; exact upd_at ..
        · rw [zgi 4 _ (by omega), hY, mk_gi, if_neg (by omega), if_neg (by omega), if_neg (by omega), if_neg (by omega), if_neg (by omega), if_neg (by omega), if_neg (by omega), if_pos ⟨rfl, rfl⟩]
        · rw [zgi 5 _ (by omega), hY, mk_gi, if_neg (by omega), if_neg (by omega), if_neg (by omega), if_neg (by omega), if_neg (by omega), if_neg (by omega), if_pos ⟨rfl, rfl⟩]
        · rw [hZ, mz_ga]; exact upd_at ..
        · rw [zgi 6 _ (by omega), hY, mk_gi, if_neg (by omega), if_neg (by omega), if_neg (by omega), if_neg (by omega), if_neg (by omega), if_pos ⟨rfl, rfl⟩]; exact td9
        · rw [hZ, mz_ga]; exact upd_at ..
        · rw [zgi 7 _ (by omega), hY, mk_gi, if_neg (by omega), if_neg (by omega), if_neg (by omega), if_neg (by omega), if_pos ⟨rfl, rfl⟩]; exact hx8
        · rw [hZ, mz_ga]; exact upd_at ..
        · rw [hZ, mz_ga]; exact (upd_at ..).trans (by rw [us9 52 (by decide)]; exact hw52.trans hw)
        · rw [hZ, mz_ga, if_pos rfl]; exact (upd_at ..).trans hE
        · obtain ⟨kk, q, pr, h1, h2, h3, h4, h5, h6, h7, h8, h9, h10, h11, h12⟩ := hL k hk
          rw [us_new k hk, h8]
          refine ⟨kk, q, pr, h1, h2, h3, h4, h5, ?_, ?_, ?_, ?_, ?_, ?_, fun i hi => mtS_lt hi, ?_, ?_⟩
          · unfold bK; rw [zga _ (by omega) (by omega) (by omega) (by omega)]; exact h7
          · rw [hZ, mz_ga, if_neg (by decide), if_neg (by decide), if_neg (by decide), if_neg (by decide), if_neg (by decide), if_neg (by decide), if_pos rfl, fcp_in hk, us9 55 (by decide)]; exact h8
          · unfold bQ; rw [zga _ (by omega) (by omega) (by omega) (by omega)]; exact h9
          · rw [hZ, mz_ga, if_neg (by decide), if_neg (by decide), if_neg (by decide), if_neg (by decide), if_neg (by decide), if_pos rfl, fcp_in hk, us9 56 (by decide)]; exact h10
          · unfold bP; rw [zga _ (by omega) (by omega) (by omega) (by omega)]; exact h11
          · rw [hZ, mz_ga, if_neg (by decide), if_neg (by decide), if_neg (by decide), if_neg (by decide), if_pos rfl, fcp_in hk, us9 57 (by decide)]; exact h12
          · unfold bT; rw [zgY _ (by omega), hY, mk_ga, if_neg (by omega), mk3_T h1, kn_mtS rE, hx8, td9]
          · unfold bH; rw [zgY _ (by omega), hY, mk_ga, if_neg (by omega), hRk kk h1]
            rcases mtS U nr (nI p) (nI kk) (nI td) with _ | i
            · rfl
            · show ga U 50 i = ga Z 50 i; rw [us9 50 (by decide), zga 50 (by omega) (by omega) (by omega) (by omega)]
      · have hb9 : b < nB := by omega
        rw [lnX_lt hb9]
        have hB9 := b4 b hb9
        have hn6 := hB9.2.1
        have r1 : ∀ r, 58 < r → r < 64 → ga Z r b = ga st r b := fun r r1 r2 => by
          rcases (show r = 59 ∨ r = 60 ∨ r = 61 ∨ r = 62 ∨ r = 63 by omega) with rfl | rfl | rfl | rfl | rfl <;> (rw [hZ, mz_ga]; refine (upd_ne _ _ e).trans ?_; rw [us9 _ (by decide)])
        refine LB_K (Nat.le_refl _) (Nat.le_succ _) (fun k hk => us_old _ (by omega)) (fun f _ => zo f _ (by omega) (by omega) (by omega) (by omega)) (fun i h1 h2 => zga _ (by omega) (by omega) (by omega) (by omega)) r1 ?_ (fun r k h1 h2 hk => ?_) (fun i hi => by rw [zga 50 (by omega) (by omega) (by omega) (by omega)]) hB9
        · rw [hZ, mz_ga, if_pos rfl]; refine (upd_ne _ _ e).trans ?_; rw [us9 68 (by decide)]
        · rcases (show r = 64 ∨ r = 65 ∨ r = 66 by omega) with rfl | rfl | rfl <;> (rw [hZ, mz_ga]; refine (fcp_out (by omega)).trans ?_; rw [us9 _ (by decide)])
    · have e67 : ga Z 67 = fcp (ga st 67) (6 * nB) (fun i => oI (mkT U nr p (nI td) i)) nb := by rw [hZ, mz_ga, if_neg (by decide), if_neg (by decide), if_neg (by decide), if_pos rfl, us9 67 (by decide)]
      rw [e67]
      by_cases e : 6 * nB ≤ i ∧ i < 6 * nB + nb
      · obtain ⟨k, rfl⟩ : ∃ k, i = 6 * nB + k := ⟨i - 6 * nB, by omega⟩
        rw [us_new k (by omega), fcp_in (by omega)]
        refine ⟨fun i2 h2 => Nat.lt_of_lt_of_le (mtS_lt h2) hr.1, ?_⟩
        unfold mkT; rw [us9 55 (by decide)]
      · have e9 : us2 i = us i := by rw [hus2]; exact if_neg e
        rw [e9, fcp_out (by omega)]; exact b5 i hi
  · obtain ⟨n1, n2, n3, n4, n5⟩ := id hn
    have e72 : ga Z 72 = ga st 72 := zga 72 (by omega) (by omega) (by omega) (by omega)
    have e73 : ga Z 73 = ga st 73 := zga 73 (by omega) (by omega) (by omega) (by omega)
    refine ⟨n1, (zo 3 5 (by omega) (by omega) (by omega) (by omega)).trans n2, (z30 41 (by decide) (by decide) (by decide)).trans n3, fun i hi => ?_, fun b h => ?_⟩
    · rw [e72, e73, zga 74 (by omega) (by omega) (by omega) (by omega), zga 17 (by omega) (by omega) (by omega) (by omega), zga 18 (by omega) (by omega) (by omega) (by omega), zga 19 (by omega) (by omega) (by omega) (by omega)]
      obtain ⟨m1, m2, m3, b, m4, m5⟩ := n4 i hi
      exact ⟨m1, m2, m3, b, by omega, m5⟩
    · rw [ntS_c e72 e73]
      by_cases e : b = nB
      · subst e
        rw [zgi 12 _ (by omega), hY, mk_gi, if_neg (by omega), if_neg (by omega), if_neg (by omega), if_neg (by omega), if_neg (by omega), if_neg (by omega), if_neg (by omega), if_neg (by omega), hd.2.2.2.2.1, ntS_0 (by omega) (fun i hi => (n4 i hi).2.2.2) nl (Nat.le_refl _)]
      · rw [zo 12 _ (by omega) (by omega) (by omega) (by omega)]; exact n5 b (by omega)
