/-! ===== roundings and clients ===== -/
theorem PI_M {Ls : List Nat} {st u : XS} {bd d n mB nn : Nat} {ln : Nat → Nat} (h : PI Ls st bd d n mB nn ln) (h1 : ∀ f k, gi u f k = gi st f k) (h2 : ∀ f k, gp u f k = gp st f k) (h3 : ∀ k, ¬ k = 7 → ¬ k = 8 → ¬ k = 35 → ¬ k = 36 → ga u k = ga st k) (h4 : ∀ k, gb u k = gb st k) (hm : PM d u) : PI Ls u bd d n mB nn ln := by
  obtain ⟨ha, ⟨r1, r2, r3⟩, -, ⟨d1, d2', d3, d4, d5, d6⟩, ⟨b1, b2⟩, ⟨n1, n2⟩, f1, f2, f3, f4, f5⟩ := h
  have q : ∀ k, 8 < k → ¬ k = 35 → ¬ k = 36 → ga u k = ga st k := fun k q1 q2 q3 => h3 k (by omega) (by omega) q2 q3
  have a33 : ga u 33 = ga st 33 := q 33 (by decide) (by decide) (by decide)
  refine ⟨PA_K ha h2 h4, ⟨r1, (h1 ..).trans r2, ?_⟩, hm, ⟨d1, (h2 ..).trans d2', (h1 ..).trans d3, (h1 ..).trans d4, (h1 ..).trans d5, fun k hk => PL_K (d6 k hk) (fun j _ _ => by rw [q _ (by omega) (by omega) (by omega)]) (fun i _ => by rw [a33])⟩, ⟨fun i hi => by rw [h4]; exact b1 i hi, fun b hb => PB_K (b2 b hb) (fun f => h1 ..) (fun j _ _ => by rw [q _ (by omega) (by omega) (by omega)]) (fun i _ => by rw [q 32 (by decide) (by decide) (by decide)]) (fun k _ i _ => by rw [a33])⟩, ⟨n1, (h1 ..).trans n2⟩, f1, f2, fun i hi => by rw [h4]; exact f3 i hi, (h1 ..).trans f4, ?_⟩
  · rw [q 31 (by decide) (by decide) (by decide), q 13 (by decide) (by decide) (by decide), q 14 (by decide) (by decide) (by decide), q 15 (by decide) (by decide) (by decide), q 16 (by decide) (by decide) (by decide)]; exact r3
  · intro j hj
    rw [q 301 (by decide) (by decide) (by decide), q 302 (by decide) (by decide) (by decide), q 303 (by decide) (by decide) (by decide)]; exact f5 j hj
theorem PI_round {Ls : List Nat} {st : XS} {bd d n mB nn p9 w : Nat} {ln : Nat → Nat} (h : PI Ls st bd d n mB nn ln) (hw : w < 3) : PI Ls (sa (sa st 7 (upd (ga st 7) p9 (nI w))) 36 (upd (ga st 36) p9 (nI w))) bd d n mB nn ln := by
  have hm := h.2.2.1
  refine PI_M h (fun _ _ => rfl) (fun _ _ => rfl) (fun k q1 q2 q3 q4 => by rw [ga_sa, if_neg q4, ga_sa, if_neg q1]) (fun _ => rfl) ⟨hm.1, fun i hi => ?_, fun i hi => ?_, hm.2.2.2.1, hm.2.2.2.2⟩
  · rw [ga_sa, if_neg (by decide), ga_self]
    by_cases e : i = p9
    · subst e; rw [pk_us]; exact ⟨w, hw, rfl⟩
    · rw [pk_un e]; exact hm.2.1 i hi
  · rw [ga_self, ga_sa, if_neg (by decide), ga_self]
    by_cases e : i = p9
    · subst e; rw [pk_us, pk_us]
    · rw [pk_un e, pk_un e]; exact hm.2.2.1 i hi
theorem PI_client {Ls : List Nat} {st : XS} {bd d n mB nn c9 q9 : Nat} {ln : Nat → Nat} (h : PI Ls st bd d n mB nn ln) (hq : q9 < 2) : PI Ls (sa (sa st 8 (upd (ga st 8) c9 (nI q9))) 35 (upd (ga st 35) c9 (nI q9))) bd d n mB nn ln := by
  have hm := h.2.2.1
  refine PI_M h (fun _ _ => rfl) (fun _ _ => rfl) (fun k q1 q2 q3 q4 => by rw [ga_sa, if_neg q3, ga_sa, if_neg q2]) (fun _ => rfl) ⟨hm.1, hm.2.1, hm.2.2.1, fun i hi => ?_, fun i hi => ?_⟩
  · rw [ga_sa, if_neg (by decide), ga_self]
    by_cases e : i = c9
    · subst e; rw [pk_us]; exact ⟨q9, hq, rfl⟩
    · rw [pk_un e]; exact hm.2.2.2.1 i hi
  · rw [ga_self, ga_sa, if_neg (by decide), ga_self]
    by_cases e : i = c9
    · subst e; rw [pk_us, pk_us]
    · rw [pk_un e, pk_un e]; exact hm.2.2.2.2 i hi
