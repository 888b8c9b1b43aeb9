/-! ===== the law's turns: locals, and what goes on behind a branch ===== -/
abbrev LV (ad : Nat → Nat) (b bd at9 d n mB nn t : Nat) : List (Nat × Value) := [(0, .ref b), (1, .ref (ad 0)), (2, .int (nI bd)), (3, .int (nI at9)), (6, .ref (ad 31)), (7, .ref (ad 32)), (8, .ref (ad 33)), (9, .ref (ad 34)), (10, .ref (ad 35)), (11, .ref (ad 36)), (12, .int (nI d)), (13, .int (nI n)), (14, .int (nI mB)), (15, .int (nI nn)), (16, .int (nI t))]
/-- behind the branches -/
def K78 (p : Program) (l : Launch) (e : Env) (s : State) (m : MethodId) (below : List Frame) (meth : Method) (c : Code) (D : va_G) (cy : Nat → ClassId) (b bd t : Nat) : Prop :=
  ∀ (p9 : Nat) (ad : Nat → Nat) (Ls : List Nat) (st : XS) (H : Heap) (locs : List Loc) (ls : Array Slot) (at9 d n mB nn : Nat) (ln : Nat → Nat), p9 < 2 → at9 ≤ 1 + 5 * (t + 1) → d ≤ 4 * (t + 1) → xH D cy ad Ls (lwA s) s st H locs → PI Ls st bd d n mB nn ln → lv_has ls 31 ((20, .int (nI p9)) :: LV ad b bd at9 d n mB nn t) → W p l e room_1 s m #[Value.ref b] below meth c H locs (3000 + 4000 * t) (40000 + 40000 * t) (lw_Z below #[Value.ref b] s) (F0 m 1478 ls [])
/-- behind a turn -/
def K98 (p : Program) (l : Launch) (e : Env) (s : State) (m : MethodId) (below : List Frame) (meth : Method) (c : Code) (D : va_G) (cy : Nat → ClassId) (b bd t : Nat) : Prop :=
  ∀ (ad : Nat → Nat) (Ls : List Nat) (st : XS) (H : Heap) (locs : List Loc) (ls : Array Slot) (at9 d n mB nn : Nat) (ln : Nat → Nat), at9 ≤ 1 + 5 * t → d ≤ 4 * t → xH D cy ad Ls (lwA s) s st H locs → PI Ls st bd d n mB nn ln → lv_has ls 31 (LV ad b bd at9 d n mB nn t) → W p l e room_1 s m #[Value.ref b] below meth c H locs (1000 + 4000 * t) (10000 + 40000 * t) (lw_Z below #[Value.ref b] s) (F0 m 198 ls [])
theorem bd4 {p : Nat} (h : p < 4) : bdI 4 (nI p) = false := bdI_no h (by decide)
theorem nI_nn {a b : Nat} (h : a ≤ b) (hb : b < 2 ^ 31) : ¬ nI b < nI a := nI_nlt h hb
theorem kRate_0 {n p k h f : Nat} (hn : n < 60) (hp : p < 4) (hk : k < 4) (hh : h ≤ 100) (hf : f ≤ 9999) : kRate n (nI p) (nI k) (nI h) (nI f) = 0 := by
  unfold kRate
  rw [bd4 hp, bd4 hk, if_neg (by decide), if_neg (by decide), if_neg, if_neg (by omega)]
  rintro (q | q | q | q)
  · exact nI_pos (by omega) q
  · exact nI_nlt hh (by decide) q
  · exact nI_pos (by omega) q
  · exact q ((nI_leI (by omega) (by decide)).mpr hf)
theorem kPass_0 {x : Nat} (h1 : 1 ≤ x) (h2 : x ≤ 99) : kPass (nI x) = 0 := by
  unfold kPass
  rw [if_neg]
  rintro (q | q)
  · exact nI_nlt h1 (by omega) q
  · exact q ((nI_leI (by omega) (by decide)).mpr h2)
theorem kRound_0 {p w : Nat} (hp : p < 4) (hw : w < 3) : kRound (nI p) (nI w) = 0 := by
  unfold kRound
  rw [bd4 hp, if_neg (by decide), if_neg]
  rintro (q | q)
  · exact nI_pos (by omega) q
  · exact q ((nI_leI (by omega) (by decide)).mpr (by omega))
theorem kClient_0 {c p : Nat} (hc : c < 10) (hp : p < 4) : kClient (nI c) (nI p) = 0 := by
  unfold kClient
  rw [bdI_no hc (by decide), bd4 hp]; rfl
theorem kLine_0 {n k q p : Nat} (hn : n < 6) (hk : k < 4) (hq1 : 1 ≤ q) (hq : q ≤ 99) (hp1 : 1 ≤ p) (hp : p ≤ 9999) : kLine n (nI k) (nI q) (nI p) = 0 := by
  unfold kLine
  rw [bd4 hk, if_neg (by decide), if_neg, if_neg (by omega)]
  rintro (z | z | z | z)
  · exact nI_nlt hq1 (by omega) z
  · exact nI_nlt hq (by decide) z
  · exact nI_nlt hp1 (by omega) z
  · exact z ((nI_leI (by omega) (by decide)).mpr hp)
theorem kTell_0 {p k d : Nat} (hp : p < 4) (hk : k < 4) (hd : d ≤ 9999) : kTell (nI p) (nI k) (nI d) = 0 := by
  unfold kTell
  rw [bd4 hp, bd4 hk, if_neg (by decide), if_neg (by decide), if_neg]
  rintro (q | q)
  · exact nI_pos (by omega) q
  · exact q ((nI_leI (by omega) (by decide)).mpr hd)
theorem kInv_0 {nB i w : Nat} (hB : nB ≤ 30) (hi : i < nB) (hw : w < 8) : kInv nB (nI i) (nI w) = 0 := by
  unfold kInv
  rw [bdI_no hi (by omega), if_neg (by decide), if_pos]
  rcases (show w = 0 ∨ w = 1 ∨ w = 2 ∨ w = 3 ∨ w = 4 ∨ w = 5 ∨ w = 6 ∨ w = 7 by omega) with rfl | rfl | rfl | rfl | rfl | rfl | rfl | rfl
  all_goals simp
theorem kBill_0 {nB i : Nat} (hB : nB ≤ 30) (hi : i < nB) : kBill nB (nI i) = 0 := by
  unfold kBill; rw [bdI_no hi (by omega)]; rfl
theorem kUsed_0 {nB i k : Nat} {ln : Nat → Nat} (hB : nB ≤ 30) (hi : i < nB) (hk : k < ln i) (hl : ln i ≤ 6) : kUsed nB ln (nI i) (nI k) = 0 := by
  unfold kUsed
  rw [bdI_no hi (by omega), if_neg (by decide), if_pos]
  rw [nI_clamp (by omega)]
  exact ⟨nI_pos (by omega), nI_lt hk (by omega)⟩
theorem kPlace_0 {p : Nat} (hp : p < 4) : kPlace (nI p) = 0 := by
  unfold kPlace; rw [bd4 hp]; rfl
theorem kMake_0 {b n c : Nat} (hc : c < 10) (hn : 0 < n) (hb : b < 30) : kMake b n (nI c) = 0 := by
  unfold kMake; rw [bdI_no hc (by decide), if_neg (by decide), if_neg (by omega), if_pos hb]
/-! ===== what the small calls leave ===== -/
theorem PI_pass {Ls : List Nat} {st : XS} {bd d n mB nn : Nat} {ln : Nat → Nat} (h : PI Ls st bd d n mB nn ln) (d2 : Nat) : PI Ls (si st 4 0 (nI d2)) bd d2 n mB nn ln := by
  obtain ⟨ha, ⟨r1, r2, r3⟩, ⟨m1, m2⟩, ⟨d1, d2', d3, d4, d5, d6⟩, ⟨b1, b2⟩, ⟨n1, n2⟩, f⟩ := h
  have gk : ∀ f b, gi (si st 4 0 (nI d2)) f (100 + 6 * b) = gi st f (100 + 6 * b) := fun f b => by rw [gi_si, if_neg (by omega)]
  exact ⟨PA_K ha (fun _ _ => rfl) (fun _ => rfl), ⟨r1, r2, r3⟩, ⟨(gi_si ..).trans (if_pos ⟨rfl, rfl⟩), m2⟩, ⟨d1, d2', d3, (gk 3 mB).trans d4, (gk 12 mB).trans d5, d6⟩, ⟨b1, fun b hb => PB_K (b2 b hb) (fun f => gk f b) (fun _ _ _ => rfl) (fun _ _ => rfl) (fun _ _ _ _ => rfl)⟩, ⟨n1, n2⟩, f⟩
theorem upd4 {f : Nat → Int32} {n : Nat} {a0 a1 a2 a3 : Int32} {g : Nat → Int32} (hg : g = upd (upd (upd (upd f (4 * n) a0) (4 * n + 1) a1) (4 * n + 2) a2) (4 * n + 3) a3) : g (4 * n) = a0 ∧ g (4 * n + 1) = a1 ∧ g (4 * n + 2) = a2 ∧ g (4 * n + 3) = a3 ∧ ∀ j, j < 4 * n → g j = f j := by
  subst hg
  refine ⟨?_, ?_, ?_, ?_, fun j hj => ?_⟩
  · rw [pk_un (by omega), pk_un (by omega), pk_un (by omega), pk_us]
  · rw [pk_un (by omega), pk_un (by omega), pk_us]
  · rw [pk_un (by omega), pk_us]
  · rw [pk_us]
  · rw [pk_un (by omega), pk_un (by omega), pk_un (by omega), pk_un (by omega)]
theorem PI_rate {Ls : List Nat} {st v u : XS} {bd d n mB nn p9 k9 h9 f9 : Nat} {ln : Nat → Nat} {g : Nat → Int32} (h : PI Ls st bd d n mB nn ln) (hn : n < 15) (hh : h9 ≤ 100) (hf : f9 ≤ 9999) (hg : g = upd (upd (upd (upd (ga st 31) (4 * n) (nI p9)) (4 * n + 1) (nI k9)) (4 * n + 2) (nI h9)) (4 * n + 3) (nI f9)) (hv : v = sa st 31 g)
    (hu : u = si (sa (sa (sa (sa v 13 (upd (ga v 13) n (nI p9))) 14 (upd (ga v 14) n (nI k9))) 15 (upd (ga v 15) n (nI h9))) 16 (upd (ga v 16) n (nI f9))) 4 4 (nI (n + 1))) : PI Ls u bd d (n + 1) mB nn ln := by
  obtain ⟨ha, ⟨r1, r2, r3⟩, ⟨m1, m2⟩, ⟨d1, d2', d3, d4, d5, d6⟩, ⟨b1, b2⟩, ⟨n1, n2⟩, f⟩ := h
  subst hv
  have gk : ∀ f b, gi u f (100 + 6 * b) = gi st f (100 + 6 * b) := fun f b => by rw [hu, gi_si, if_neg (by omega)]; rfl
  have ak : ∀ k, ¬ k = 31 → ¬ k = 13 → ¬ k = 14 → ¬ k = 15 → ¬ k = 16 → ga u k = ga st k := fun k q1 q2 q3 q4 q5 => by rw [hu, ga_si, ga_sa, if_neg q5, ga_sa, if_neg q4, ga_sa, if_neg q3, ga_sa, if_neg q2, ga_sa, if_neg q1]
  have e16 : ga u 16 = upd (ga st 16) n (nI f9) := by rw [hu, ga_si, ga_self, ga_sa, if_neg (by decide)]
  have e15 : ga u 15 = upd (ga st 15) n (nI h9) := by rw [hu, ga_si, ga_sa, if_neg (by decide), ga_self, ga_sa, if_neg (by decide)]
  have e14 : ga u 14 = upd (ga st 14) n (nI k9) := by rw [hu, ga_si, ga_sa, if_neg (by decide), ga_sa, if_neg (by decide), ga_self, ga_sa, if_neg (by decide)]
  have e13 : ga u 13 = upd (ga st 13) n (nI p9) := by rw [hu, ga_si, ga_sa, if_neg (by decide), ga_sa, if_neg (by decide), ga_sa, if_neg (by decide), ga_self, ga_sa, if_neg (by decide)]
  have e31 : ga u 31 = g := by rw [hu, ga_si, ga_sa, if_neg (by decide), ga_sa, if_neg (by decide), ga_sa, if_neg (by decide), ga_sa, if_neg (by decide), ga_self]
  obtain ⟨g0, g1, g2, g3, g4⟩ := upd4 hg
  have a33 : ga u 33 = ga st 33 := ak 33 (by decide) (by decide) (by decide) (by decide) (by decide)
  refine ⟨PA_K ha (fun f k => by rw [hu]; rfl) (fun k => by rw [hu]; rfl), ⟨by omega, by rw [hu]; exact (gi_si ..).trans (if_pos ⟨rfl, rfl⟩), fun i hi => ?_⟩, ?_, ⟨d1, by rw [hu]; exact d2', by rw [hu, gi_si, if_neg (by decide)]; exact d3, (gk 3 mB).trans d4, (gk 12 mB).trans d5, fun k hk => PL_K (d6 k hk) (fun j _ _ => by rw [ak _ (by omega) (by omega) (by omega) (by omega) (by omega)]) (fun i _ => by rw [a33])⟩, ⟨fun i hi => by rw [hu]; exact b1 i hi, fun b hb => PB_K (b2 b hb) (fun f => gk f b) (fun j _ _ => by rw [ak _ (by omega) (by omega) (by omega) (by omega) (by omega)]) (fun i _ => by rw [ak 32 (by decide) (by decide) (by decide) (by decide) (by decide)]) (fun k _ i _ => by rw [a33])⟩, ⟨n1, by rw [hu, gi_si, if_neg (by decide)]; exact n2⟩, ?_⟩
  · rw [e31, e13, e14, e15, e16]
    by_cases e : i = n
    · subst e
      rw [pk_us, pk_us, pk_us, pk_us]
      exact ⟨g0, g1, g2, g3, ⟨h9, hh, rfl⟩, f9, hf, rfl⟩
    · rw [pk_un e, pk_un e, pk_un e, pk_un e, g4 _ (by omega), g4 _ (by omega), g4 _ (by omega), g4 _ (by omega)]
      exact r3 i (by omega)
  · refine ⟨by rw [hu, gi_si, if_neg (by decide)]; exact m1, ?_⟩
    rw [ak 7 (by decide) (by decide) (by decide) (by decide) (by decide), ak 8 (by decide) (by decide) (by decide) (by decide) (by decide), ak 35 (by decide) (by decide) (by decide) (by decide) (by decide), ak 36 (by decide) (by decide) (by decide) (by decide) (by decide)]
    exact m2
  · obtain ⟨f1, f2, f3, f4, f5⟩ := f
    refine ⟨f1, f2, fun i hi => by rw [hu]; exact f3 i hi, by rw [hu, gi_si, if_neg (by decide)]; exact f4, ?_⟩
    intro j hj
    rw [ak 301 (by decide) (by decide) (by decide) (by decide) (by decide), ak 302 (by decide) (by decide) (by decide) (by decide) (by decide), ak 303 (by decide) (by decide) (by decide) (by decide) (by decide)]
    exact f5 j hj
