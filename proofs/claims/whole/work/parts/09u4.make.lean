/-! ===== make ===== -/
set_option maxHeartbeats 2000000 in
theorem s_make (l : Launch) (hl0 : l.stackTraces = false) (D : va_G) (cy : Nat → ClassId) (a0 : Int32) : SG l D cy LI yX7_make cX7_make 4 .int 8 10 80 [eIOB, eISE] yX8_make cX8_make 5 .int 3 [.int a0] := by
  intro t ad Ls st ht hI
  have hI9 := hI
  obtain ⟨np, g, nF, fm, fz, sz, nr, td, nB, nb, ln, us, nl, ha, hp, hf, hr, hm, hd, hb, hn⟩ := hI
  have hB30 := ha.2.2.2.2.2.2.2.2.1
  have hBL := ha.2.2.2.1
  have hd6 := hd.1
  have hcp : ∀ j, j < 10 → (ga st 53 j).toNatClampNeg < 4 ∧ ga st 53 j = nI (ga st 53 j).toNatClampNeg := fun j hj => by
    obtain ⟨e, p, h1, h2⟩ := hm.2.2.2.2 j hj
    rw [e, h2, nI_clamp (by omega)]; exact ⟨h1, rfl⟩
  have hdk : ∀ k, k < nb → (ga st 55 k).toNatClampNeg < 4 ∧ ga st 55 k = nI (ga st 55 k).toNatClampNeg := fun k hk => by
    obtain ⟨kk, q, p, h1, _, _, _, _, _, h2, _⟩ := hd.2.2.2.2.2 k hk
    rw [h2, nI_clamp (by omega)]; exact ⟨h1, rfl⟩
  have hnew : ∀ k, k ∈ LsB (nB + 1) → k ∉ Ls := ha.2.2.2.2.1 (nB + 1) (Nat.lt_succ_self _) (by omega)
  refine ⟨kMake nB nb a0, _, c_X7_make l hl0 D cy ad Ls st ha.1 nr hr.1 hr.2.1 nB hB30 (fun j hj => hBL nB (Nat.le_refl _) j hj) nb hd.1 hd.2.2.1 hd.2.1 hb.1 ha.2.2.2.2.2.2.2.1 hnew a0, rfl, fun hK => ⟨_, c_X8_make l D cy ad Ls st ha.2.2.1 nr hr.1 hr.2.2.1 nB hB30 hb.2.1 nb hd.1 hd.2.2.2.1 (nI td) hm.2.2.1 (fun j => (ga st 53 j).toNatClampNeg) hcp (fun k => (ga st 55 k).toNatClampNeg) hdk a0, fun rb u hpb => ?_⟩, fun r u hpost => ?_⟩
  · rcases hpb with ⟨h1, h2, h3⟩ | ⟨h1, _⟩
    · subst h3; exact ⟨by rw [k_eMake hB30]; rfl, LI_thr hI9 _⟩
    · exact absurd ((k_eMake hB30 a0).trans h1) hK
  · obtain ⟨hK, hr0, ad2, hk2, hu⟩ := hpost
    subst hu
    have hK9 := hK; rw [k_eMake hB30] at hK9
    obtain ⟨hnb, hB⟩ : 0 < nb ∧ nB < 30 := by
      rw [kMake] at hK
      split at hK
      · cases hK
      · split at hK
        · cases hK
        · split at hK
          · exact ⟨by omega, by assumption⟩
          · cases hK
    have y30 : ∀ f, gi (mk7 st nr nB nb a0) f 30 = gi st f 30 := fun f => by
      rw [mk_gi, if_neg (by omega), if_neg (by omega), if_neg (by omega), if_neg (by omega), if_neg (by omega), if_neg (by omega), if_neg (by omega), if_neg (by omega)]
    have yga : ∀ k, k < 100 → ga (mk7 st nr nB nb a0) k = ga st k := fun k h => by rw [mk_ga, if_neg (by omega), mk3_ga (by omega) (by omega)]
    refine ⟨hK, hk2 0 (ha.1 0 rfl), hk2 30 (ha.2.2.1 30 (by decide)), hk2 90 ha.2.1, fun k hk => List.mem_append_left _ hk, fun u9 hu9 => ?_⟩
    have u30 : ∀ f, gi u9 f 30 = gi st f 30 := fun f => by rw [hu9]; exact y30 f
    have uga : ∀ k, k < 100 → ga u9 k = ga st k := fun k h => by rw [hu9]; exact yga k h
    refine ⟨_, c_X8_make l D cy ad2 (Ls ++ LsB (nB + 1)) u9 (fun k hk => List.mem_append_left _ (ha.2.2.1 k hk)) nr hr.1 ((u30 17).trans hr.2.2.1) nB hB30 ((u30 28).trans hb.2.1) nb hd.1 ((u30 24).trans hd.2.2.2.1) (nI td) ((u30 16).trans hm.2.2.1) (fun j => (ga st 53 j).toNatClampNeg) (by rw [uga 53 (by decide)]; exact hcp) (fun k => (ga st 55 k).toNatClampNeg) (by rw [uga 55 (by decide)]; exact hdk) a0, fun rb u2 h2 => ?_⟩
    rcases h2 with ⟨h1, _⟩ | ⟨_, j, hj, ej, e1, e2⟩
    · exact absurd hK9 h1
    · subst ej
      subst e2
      refine ⟨by rw [mz_gi, if_neg (by decide), if_neg (by decide), if_pos ⟨rfl, rfl⟩], e1.trans hr0.symm, ?_, ?_⟩
      · rw [mz_gl, hu9, gl_sl, if_pos ⟨rfl, rfl⟩]
      · rw [hu9]
        exact make_LI ha hp hf hr hm hd hb hn hnb hB hj (hcp j hj).1 ((hm.2.2.2.2 j hj).1.symm.trans (hcp j hj).2) hdk
