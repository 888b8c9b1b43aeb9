/-! ===== names: numbers, and the same in both ===== -/
def N31 (x : Int32) : Prop := ∃ q, q < 2 ^ 31 ∧ x = nI q
theorem N31_ite {c : Prop} [Decidable c] {a b : Int32} (ha : N31 a) (hb : N31 b) : N31 (if c then a else b) := by
  split
  · exact ha
  · exact hb
theorem N31_n {q : Nat} (h : q < 2 ^ 31) : N31 (nI q) := ⟨q, h, rfl⟩
theorem N31_c {x : Int32} (h : N31 x) : x = nI x.toNatClampNeg := by
  obtain ⟨q, h1, rfl⟩ := h
  rw [nI_clamp h1]
theorem xget_m1 {n : Nat} {f : Nat → Int32} : xget n f (-1) = nI 0 := if_pos (Or.inl (by decide))
theorem am_m1 {q p : Nat → Int32} : amS q p (-1) = nI 0 := by
  unfold amS; rw [xget_m1, xget_m1]; rfl
theorem tm_m1 {k q p r : Nat → Int32} : tmR k q p r (-1) = nI 0 := by
  unfold tmR; rw [am_m1]; exact Int32.zero_mul
theorem LB_q {st : XS} {nr t b n : Nat} {us : Nat → Option Nat} (hr : LIr st nr) (h : LB st nr t b n us) : ∀ k, k < n → ∃ kk q p r, kk < 4 ∧ q ≤ 99 ∧ p ≤ 9999 ∧ r ≤ 100 ∧ bK st b k = nI kk ∧ bQ st b k = nI q ∧ bP st b k = nI p ∧ bH st b kk = nI r := by
  intro k hk
  obtain ⟨kk, q, p, b1, b2, b3, b4, b5, b6, b7, b8, b9, b10, b11, b12, b13, b14⟩ := h.2.2.2.2.2.2.2.2.2.2 k hk
  obtain ⟨r, r1, r2⟩ := mrS_N hr b12
  exact ⟨kk, q, p, r, b1, b3, b5, r1, b6, b8, b10, b14.trans r2⟩
theorem sumA_N {Q P : Nat → Int32} : ∀ (n : Nat), n ≤ 6 → (∀ k, k < n → ∃ q p, q ≤ 99 ∧ p ≤ 9999 ∧ Q k = nI q ∧ P k = nI p) → ∃ x, x ≤ n * 989901 ∧ sumA Q P n = nI x := by
  intro n
  induction n with
  | zero => intro _ _; exact ⟨0, Nat.le_refl _, rfl⟩
  | succ n ih =>
    intro hn h
    obtain ⟨x, h1, h2⟩ := ih (by omega) (fun k hk => h k (by omega))
    obtain ⟨q, p, h3, h4, h5, h6⟩ := h n (by omega)
    have e1 : q * p ≤ 99 * 9999 := Nat.mul_le_mul h3 h4
    exact ⟨x + q * p, by omega, by rw [sumA, h2, amS, xget_at (by omega) (by decide), xget_at (by omega) (by decide), h5, h6, pk_mul, nI_add]⟩
theorem num_N {st : XS} {nr t b n : Nat} {us : Nat → Option Nat} (hr : LIr st nr) (h : LB st nr t b n us) (hb30 : b < 30) (ht : t ≤ 1000) (c idx : Int32) (hi : lnOk n idx) : N31 (numS st b n c idx) := by
  obtain ⟨a1, a2, a3, a4, a5, ⟨c9, a6, a7, a8⟩, ⟨d, a9, a10, a11⟩, ⟨p, a12, a13, a14⟩, ⟨w9, a15, a16, a17⟩, ⟨x, a18, a19, a20⟩, a21⟩ := id h
  have hq := LB_q hr h
  obtain ⟨sx, s1, s2⟩ := sumA_N (Q := bQ st b) (P := bP st b) n a2 (fun k hk => by obtain ⟨kk, q, p, r, h1, h2, h3, h4, h5, h6, h7, h8⟩ := hq k hk; exact ⟨q, p, h2, h3, h6, h7⟩)
  have hT := TmN_of a2 hq
  have hs : sx ≤ 6000000 := by have := Nat.mul_le_mul_right 989901 a2; omega
  unfold numS
  rw [s2, a7, a10, a19, a5, nI_add]
  rcases hi with rfl | ⟨j, hj, rfl⟩
  · rw [am_m1, tm_m1, xget_m1, xget_m1, xget_m1]
    refine N31_ite (N31_n (by decide)) (N31_ite (N31_n (by omega)) (N31_ite (N31_n (by omega)) (N31_ite (N31_n (by omega)) (N31_ite ⟨0, by decide, by decide⟩ (N31_ite (N31_n (by decide)) (N31_ite (N31_n (by omega)) (N31_ite (N31_n (by omega)) (N31_ite (N31_n (by decide)) (N31_ite (N31_n (by decide)) (N31_ite (N31_n (by omega)) (N31_ite (N31_n (by omega)) ⟨0, by decide, by decide⟩)))))))))))
  · obtain ⟨kk, q, p, r, h1, h2, h3, h4, h5, h6, h7, h8⟩ := hq j hj
    obtain ⟨v, v1, v2⟩ := hT.2 j hj
    have e1 : q * p ≤ 99 * 9999 := Nat.mul_le_mul h2 h3
    rw [v2, hun_N (by omega), amS, xget_at (by omega) (by decide), xget_at (by omega) (by decide), xget_at (by omega) (by decide), h5, h6, h7, pk_mul, nI_add]
    refine N31_ite (N31_n (by omega)) (N31_ite (N31_n (by omega)) (N31_ite (N31_n (by omega)) (N31_ite (N31_n (by omega)) (N31_ite (N31_n (by omega)) (N31_ite (N31_n (by omega)) (N31_ite (N31_n (by omega)) (N31_ite (N31_n (by omega)) (N31_ite (N31_n (by omega)) (N31_ite (N31_n (by omega)) (N31_ite (N31_n (by omega)) (N31_ite (N31_n (by omega)) (N31_n (by omega)))))))))))))
theorem nm0_iff {c : Int32} : nmL0.contains c = true ↔ c = nI 110 ∨ c = nI 99 ∨ c = nI 100 ∨ c = nI 108 ∨ c = nI 115 ∨ c = nI 116 ∨ c = nI 103 := by
  unfold nmL0
  rw [List.contains_iff_mem]
  simp only [List.mem_cons, List.not_mem_nil, or_false]
  exact Iff.rfl
theorem num_mn {st u : XS} {nr t b n : Nat} {us : Nat → Option Nat} (hK : ∀ k, 47 < k → ga u k = ga st k) (h : LB st nr t b n us) (o : Option Nat) (ho : ∀ j, o = some j → j < n) (c : Int32) (hc : nmB c o.isSome = true) : mnmS u b n (fun k => us (6 * b + k)) o c = numS st b n c (oI o) := by
  obtain ⟨a1, a2, a3, a4, a5, ⟨c9, a6, a7, a8⟩, ⟨d, a9, a10, a11⟩, ⟨p, a12, a13, a14⟩, ⟨w9, a15, a16, a17⟩, ⟨x, a18, a19, a20⟩, a21⟩ := id h
  have hln : ∀ k, k < n → ga u 65 (6 * b + k) = bQ st b k ∧ ga u 66 (6 * b + k) = bP st b k := fun k hk => by
    rw [hK 65 (by decide), hK 66 (by decide)]; exact (LB_ln h k hk).2.2.2
  unfold mnmS numS
  rw [hK 59 (by decide), hK 60 (by decide), hK 61 (by decide), hK 64 (by decide), hK 68 (by decide), ← sum_ms (u := u) n a2 hln, a4, a5, a7, a8, a10, a11, a19, a20]
  rcases o with _ | j
  · have h0 : nmL0.contains c = true := by
      unfold nmB at hc
      rw [Option.isSome_none, Bool.false_and, Bool.or_false] at hc; exact hc
    rcases nm0_iff.mp h0 with e | e | e | e | e | e | e <;> subst e <;> rfl
  · have hj := ho j rfl
    obtain ⟨kk, q, p, b1, b2, b3, b4, b5, b6, b7, b8, b9, b10, b11, b12, b13, b14⟩ := a21 j hj
    have e1 : amS (bQ st b) (bP st b) (oI (some j)) = maS u b (oZ (some j)) := am_ma (by omega) (hln j hj).1 (hln j hj).2
    have e2 : mrS u (us (6 * b + oZ (some j))) = bH st b kk := by
      rw [b14]
      show mrS u (us (6 * b + j)) = _
      cases us (6 * b + j) with
      | none => rfl
      | some z => show ga u 50 z = ga st 50 z; rw [hK 50 (by decide)]
    have e3 : tmR (bK st b) (bQ st b) (bP st b) (bH st b) (oI (some j)) = maS u b (oZ (some j)) * mrS u (us (6 * b + oZ (some j))) := by
      unfold tmR
      rw [e1, show xget 6 (bK st b) (oI (some j)) = nI kk from (xget_at (by omega) (by decide)).trans b6, xget_at b1 (by decide), e2]
    rw [e3, e1, show xget 6 (bK st b) (oI (some j)) = ga st 64 (6 * b + oZ (some j)) from ((xget_at (by omega) (by decide)).trans b6).trans b7.symm,
      show xget 6 (bQ st b) (oI (some j)) = ga u 65 (6 * b + oZ (some j)) from (xget_at (by omega) (by decide)).trans (hln j hj).1.symm,
      show xget 6 (bP st b) (oI (some j)) = ga u 66 (6 * b + oZ (some j)) from (xget_at (by omega) (by decide)).trans (hln j hj).2.symm]
theorem LI_F {st w : XS} {t : Nat} {Ls : List Nat} (hI : LI t Ls st) (hG : ∀ f k, (¬ k = 3 ∧ ¬ k = 90 ∧ ¬ (k = 30 ∧ (f = 0 ∨ f = 9 ∨ 44 < f))) → gi w f k = gi st f k) (hA : ∀ k, ¬ k = 12 → ga w k = ga st k) (hP : ∀ f k, gp w f k = gp st f k) (hB : ∀ k, gb w k = gb st k) : LI (t + 1) Ls w := by
  obtain ⟨np, g, nF, fm, fz, sz, nr, td, nB, nb, ln, us, nl, ha, hp, hf, hr, hm, hd, hb, hn⟩ := hI
  exact ⟨np, g, nF, fm, fz, sz, nr, td, nB, nb, ln, us, nl, LIa_K hP hB ha, LIp_K (hG _ _ (by omega)) (hG _ _ (by omega)) (hA _ (by omega)) (hA _ (by omega)) hp, LIf_K (hP _ _) (hG _ _ (by omega)) (hG _ _ (by omega)) (hB _) (fun f _ => hG _ _ (by omega)) (fun f _ j _ _ => hA _ (by omega)) (hA _ (by omega)) (hA _ (by omega)) (hA _ (by omega)) (hA _ (by omega)) (hA _ (by omega)) hf,
    LIr_K (hG _ _ (by omega)) (hG _ _ (by omega)) (hA _ (by omega)) (hA _ (by omega)) (hA _ (by omega)) (hA _ (by omega)) (hA _ (by omega)) (hA _ (by omega)) (hA _ (by omega)) (hA _ (by omega)) hr, LIm_K (Nat.le_succ _) (hG _ _ (by omega)) (hG _ _ (by omega)) (hA _ (by omega)) (hA _ (by omega)) (hA _ (by omega)) (hA _ (by omega)) hm, LId_K (hP _ _) (hG _ _ (by omega)) (hG _ _ (by omega)) (hG _ _ (by omega)) (fun j _ _ => hA _ (by omega)) (hA _ (by omega)) (hA _ (by omega)) (hA _ (by omega)) hd,
    LIb_K (Nat.le_refl _) (Nat.le_succ _) (hG _ _ (by omega)) (hG _ _ (by omega)) (hB _) (fun b _ f _ => hG _ _ (by omega)) (fun b _ j _ _ => hA _ (by omega)) (fun r _ _ => hA _ (by omega)) (fun i _ => by rw [hA 50 (by omega)]) hb,
    LIn_K (hG _ _ (by omega)) (hG _ _ (by omega)) (hA _ (by omega)) (hA _ (by omega)) (hA _ (by omega)) (hA _ (by omega)) (hA _ (by omega)) (hA _ (by omega)) (fun b _ => hG _ _ (by omega)) hn⟩
