/-! ===== numbers of taxes and names; what make leaves (begun with the rows of whole) ===== -/
theorem xget_at {n : Nat} {f : Nat → Int32} {i : Nat} (h : i < n) (hn : n < 2 ^ 31) : xget n f (nI i) = f i := xget_nI h hn
theorem i_add0 (x : Int32) : x + nI 0 = x := Int32.add_zero x
theorem hun_N {y : Nat} (h : y < 2 ^ 30) : hun (nI y) = nI ((y + 50) / 100) := by
  unfold hun; rw [nI_add, pk_div (by omega) (by decide) (by decide)]
/-- the lines' taxes as numbers -/
def TmN (K Q P R : Nat → Int32) (n : Nat) : Prop := n ≤ 6 ∧ ∀ k, k < n → ∃ v, v ≤ 98990100 ∧ tmR K Q P R (nI k) = nI v
theorem txL_N {K Q P R : Nat → Int32} {n : Nat} (h : TmN K Q P R n) : ∀ i, i ≤ n → ∃ x, x ≤ i * 989902 ∧ txL K Q P R i = nI x := by
  intro i
  induction i with
  | zero => intro _; exact ⟨0, Nat.le_refl _, rfl⟩
  | succ i ih =>
    intro hi
    have h6 := h.1
    obtain ⟨x, h1, h2⟩ := ih (by omega)
    obtain ⟨v, h3, h4⟩ := h.2 i (by omega)
    exact ⟨x + (v + 50) / 100, by omega, by rw [txL, h2, h4, hun_N (by omega), nI_add]⟩
theorem txA_N {K Q P R : Nat → Int32} {n : Nat} (h : TmN K Q P R n) : ∀ i, i ≤ n → ∃ x, x ≤ i * 98990100 ∧ txA K Q P R i = nI x := by
  intro i
  induction i with
  | zero => intro _; exact ⟨0, Nat.le_refl _, rfl⟩
  | succ i ih =>
    intro hi
    obtain ⟨x, h1, h2⟩ := ih (by omega)
    obtain ⟨v, h3, h4⟩ := h.2 i (by omega)
    exact ⟨x + v, by omega, by rw [txA, h2, h4, nI_add]⟩
theorem txO_N {K Q P R : Nat → Int32} {n : Nat} (h : TmN K Q P R n) (kd9 : Int32) : ∀ i, i ≤ n → ∃ x, x ≤ i * 98990100 ∧ txO K Q P R kd9 i = nI x := by
  intro i
  induction i with
  | zero => intro _; exact ⟨0, Nat.le_refl _, rfl⟩
  | succ i ih =>
    intro hi
    obtain ⟨x, h1, h2⟩ := ih (by omega)
    obtain ⟨v, h3, h4⟩ := h.2 i (by omega)
    rw [txO, h2]
    by_cases e : K i = kd9
    · rw [if_pos e, h4, nI_add]; exact ⟨x + v, by omega, rfl⟩
    · rw [if_neg e, i_add0]; exact ⟨x, Nat.le_trans h1 (Nat.mul_le_mul_right _ (Nat.le_succ i)), rfl⟩
theorem txK_N {K Q P R : Nat → Int32} {n : Nat} (h : TmN K Q P R n) : ∀ j, j ≤ 4 → ∃ x, x ≤ j * 5939407 ∧ txK K Q P R n j = nI x := by
  intro j
  induction j with
  | zero => intro _; exact ⟨0, Nat.le_refl _, rfl⟩
  | succ j ih =>
    intro hj
    have h6 := h.1
    obtain ⟨x, h1, h2⟩ := ih (by omega)
    obtain ⟨v, h3, h4⟩ := txO_N h (nI j) n (Nat.le_refl _)
    exact ⟨x + (v + 50) / 100, by omega, by rw [txK, h2, h4, hun_N (by omega), nI_add]⟩
theorem txB_N {K Q P R : Nat → Int32} {n : Nat} (h : TmN K Q P R n) (w : Int32) : ∃ x, x ≤ 600000000 ∧ txB w K Q P R n = nI x := by
  have h6 := h.1
  unfold txB
  split
  · obtain ⟨x, h1, h2⟩ := txL_N h n (Nat.le_refl _); exact ⟨x, by omega, h2⟩
  · split
    · obtain ⟨x, h1, h2⟩ := txK_N h 4 (Nat.le_refl _); exact ⟨x, by omega, h2⟩
    · obtain ⟨x, h1, h2⟩ := txA_N h n (Nat.le_refl _); exact ⟨(x + 50) / 100, by omega, by rw [h2, hun_N (by omega)]⟩
theorem TmN_of {K Q P R : Nat → Int32} {n : Nat} (hn : n ≤ 6) (h : ∀ k, k < n → ∃ kk q p r, kk < 4 ∧ q ≤ 99 ∧ p ≤ 9999 ∧ r ≤ 100 ∧ K k = nI kk ∧ Q k = nI q ∧ P k = nI p ∧ R kk = nI r) : TmN K Q P R n := by
  refine ⟨hn, fun k hk => ?_⟩
  obtain ⟨kk, q, p, r, h1, h2, h3, h4, h5, h6, h7, h8⟩ := h k hk
  have e1 : q * p ≤ 99 * 9999 := Nat.mul_le_mul h2 h3
  have e2 : q * p * r ≤ 99 * 9999 * 100 := Nat.mul_le_mul e1 h4
  refine ⟨q * p * r, by omega, ?_⟩
  unfold tmR amS
  rw [xget_at (by omega) (by decide), xget_at (by omega) (by decide), xget_at (by omega) (by decide), h5, h6, h7, xget_at h1 (by decide), h8, pk_mul, pk_mul]
section MK
variable {st : XS} {nr b n : Nat} {c9 : Int32}
theorem mk_gi (f k : Nat) : gi (mk7 st nr b n c9) f k = if k = 100 + 6 * (b + 1) then 0 else if f = 10 ∧ k = 0 then nI (b + 1) else if f = 11 ∧ k = 100 + 6 * b then txB (gi (mk3 st nr b c9) 8 (100 + 6 * b)) (bK (mk3 st nr b c9) b) (bQ (mk3 st nr b c9) b) (bP (mk3 st nr b c9) b) (ga (mk3 st nr b c9) (100 + 6 * b + 5)) n else if f = 8 ∧ k = 100 + 6 * b then xget 4 (ga st 7) (xget 10 (ga st 8) c9) else if f = 7 ∧ k = 100 + 6 * b then xget 10 (ga st 8) c9 else if f = 6 ∧ k = 100 + 6 * b then gi st 4 0 else if f = 5 ∧ k = 100 + 6 * b then c9 else if f = 4 ∧ k = 100 + 6 * b then nI b else gi st f k := rfl
theorem mk_ga (k : Nat) : ga (mk7 st nr b n c9) k = if 100 + 6 * (b + 1) ≤ k ∧ k < 100 + 6 * (b + 1) + 6 then (fun _ => 0) else ga (mk3 st nr b c9) k := rfl
theorem mk_gp (f k : Nat) : gp (mk7 st nr b n c9) f k = if f = 8 ∧ k = 0 then some (100 + 6 * (b + 1)) else gp st f k := rfl
theorem mk_gb (k : Nat) : gb (mk7 st nr b n c9) k = if k = 9 then (fun z => if z = b then some (100 + 6 * b) else gb st 9 z) else gb st k := rfl
theorem mk3_ga {k : Nat} (h1 : ¬ k = 100 + 6 * b + 4) (h2 : ¬ k = 100 + 6 * b + 5) : ga (mk3 st nr b c9) k = ga st k := by
  unfold mk3; rw [ga_sa, if_neg h2]; unfold mk2; rw [ga_sa, if_neg h1]; rfl
theorem mk3_8 : gi (mk3 st nr b c9) 8 (100 + 6 * b) = xget 4 (ga st 7) (xget 10 (ga st 8) c9) := if_pos ⟨rfl, rfl⟩
theorem mk3_R (hb : b < 33) {kk : Nat} (hk : kk < 4) : ga (mk3 st nr b c9) (100 + 6 * b + 5) kk = rtOf (ga st 15) (knS st nr (xget 10 (ga st 8) c9) (nI kk) (gi st 4 0)) := by
  unfold mk3
  rw [ga_self, fup_in hk]
  unfold mk2
  rw [knS_sa (kd_b4 hb), ga_sa, if_neg (by omega)]
  rfl
theorem mk3_T {kk : Nat} (hk : kk < 4) : ga (mk3 st nr b c9) (100 + 6 * b + 4) kk = knS st nr (xget 10 (ga st 8) c9) (nI kk) (gi st 4 0) := by
  unfold mk3
  rw [ga_sa, if_neg (by omega)]
  unfold mk2
  rw [ga_self, fup_in hk]
  rfl
end MK
theorem LsB_iff {b k : Nat} : k ∈ LsB b ↔ ∃ j, j < 6 ∧ k = 100 + 6 * b + j := by
  constructor
  · intro h
    simp only [LsB, List.mem_cons, List.not_mem_nil, or_false] at h
    rcases h with h | h | h | h | h | h
    · exact ⟨0, by decide, h⟩
    · exact ⟨1, by decide, h⟩
    · exact ⟨2, by decide, h⟩
    · exact ⟨3, by decide, h⟩
    · exact ⟨4, by decide, h⟩
    · exact ⟨5, by decide, h⟩
  · rintro ⟨j, h1, h2⟩; rw [h2]; exact LsB_mem h1
theorem xCl_appG {st u : XS} {Ls N : List Nat} (h : xCl st Ls) (hgp : ∀ f k j, k ∈ Ls → gp u f k = some j → gp st f k = some j ∨ j ∈ Ls ++ N) (hgb : ∀ k i j, k ∈ Ls → gb u k i = some j → gb st k i = some j ∨ j ∈ Ls ++ N)
    (hN : ∀ k ∈ N, (kd k < 9 → ∀ f, f < nfl (kd k) → (10 ≤ fcd (kd k) f → k + (fcd (kd k) f - 10) ∈ Ls ++ N) ∧ (fcd (kd k) f = 2 → ∀ j, gp u f k = some j → j ∈ Ls ++ N)) ∧ ((kd k = 22 ∨ kd k = 23) → ∀ i j, gb u k i = some j → j ∈ Ls ++ N)) : xCl u (Ls ++ N) := by
  intro k hk
  rcases List.mem_append.mp hk with hk | hk
  · obtain ⟨c1, c2⟩ := h k hk
    refine ⟨fun a f hf => ⟨fun b => List.mem_append_left _ ((c1 a f hf).1 b), fun b j hj => ?_⟩, fun a i j hj => ?_⟩
    · rcases hgp f k j hk hj with e | e
      · exact List.mem_append_left _ ((c1 a f hf).2 b j e)
      · exact e
    · rcases hgb k i j hk hj with e | e
      · exact List.mem_append_left _ (c2 a i j e)
      · exact e
  · exact hN k hk
theorem xCl_LsB {u : XS} {Ls : List Nat} {b : Nat} (hb : b < 33) : ∀ k ∈ LsB b, (kd k < 9 → ∀ f, f < nfl (kd k) → (10 ≤ fcd (kd k) f → k + (fcd (kd k) f - 10) ∈ Ls ++ LsB b) ∧ (fcd (kd k) f = 2 → ∀ j, gp u f k = some j → j ∈ Ls ++ LsB b)) ∧ ((kd k = 22 ∨ kd k = 23) → ∀ i j, gb u k i = some j → j ∈ Ls ++ LsB b) := by
  intro k hk
  obtain ⟨j, hj, rfl⟩ := LsB_iff.mp hk
  rcases (show j = 0 ∨ j = 1 ∨ j = 2 ∨ j = 3 ∨ j = 4 ∨ j = 5 by omega) with rfl | rfl | rfl | rfl | rfl | rfl
  · rw [Nat.add_zero, kd_b0 hb]
    refine ⟨fun _ f hf => ⟨fun h => ?_, fun h => ?_⟩, fun h => by rcases h with h | h <;> cases h⟩
    · refine List.mem_append_right _ (LsB_mem ?_)
      rcases (show f = 0 ∨ f = 1 ∨ f = 2 ∨ f = 3 ∨ f = 4 ∨ f = 5 ∨ f = 6 ∨ f = 7 ∨ f = 8 ∨ f = 9 ∨ f = 10 ∨ f = 11 ∨ f = 12 by have h9 : f < 13 := hf; omega) with rfl | rfl | rfl | rfl | rfl | rfl | rfl | rfl | rfl | rfl | rfl | rfl | rfl <;> decide
    · exfalso
      rcases (show f = 0 ∨ f = 1 ∨ f = 2 ∨ f = 3 ∨ f = 4 ∨ f = 5 ∨ f = 6 ∨ f = 7 ∨ f = 8 ∨ f = 9 ∨ f = 10 ∨ f = 11 ∨ f = 12 by have h9 : f < 13 := hf; omega) with rfl | rfl | rfl | rfl | rfl | rfl | rfl | rfl | rfl | rfl | rfl | rfl | rfl <;> revert h <;> decide
  all_goals first | rw [kd_b1 hb] | rw [kd_b2 hb] | rw [kd_b3 hb] | rw [kd_b4 hb] | rw [kd_b5 hb]
  all_goals exact ⟨fun h => absurd h (by decide), fun h => absurd h (by decide)⟩
def N31 (x : Int32) : Prop := ∃ q, q < 2 ^ 31 ∧ x = nI q
theorem N31_ite {c : Prop} [Decidable c] {a b : Int32} (ha : N31 a) (hb : N31 b) : N31 (if c then a else b) := by
  split
  · exact ha
  · exact hb
theorem N31_n {q : Nat} (h : q < 2 ^ 31) : N31 (nI q) := ⟨q, h, rfl⟩
theorem N31_c {x : Int32} (h : N31 x) : x = nI x.toNatClampNeg := by
  obtain ⟨q, h1, rfl⟩ := h
  rw [nI_clamp h1]
theorem xget_m1 {n : Nat} {f : Nat → Int32} : xget n f (-1) = nI 0 := if_pos (Or.inl (by decide))
theorem am_m1 {q p : Nat → Int32} : amS q p (-1) = nI 0 := by
  unfold amS; rw [xget_m1, xget_m1]; rfl
theorem tm_m1 {k q p r : Nat → Int32} : tmR k q p r (-1) = nI 0 := by
  unfold tmR; rw [am_m1]; exact Int32.zero_mul
theorem sumA_N {Q P : Nat → Int32} : ∀ (n : Nat), n ≤ 6 → (∀ k, k < n → ∃ q p, q ≤ 99 ∧ p ≤ 9999 ∧ Q k = nI q ∧ P k = nI p) → ∃ x, x ≤ n * 989901 ∧ sumA Q P n = nI x := by
  intro n
  induction n with
  | zero => intro _ _; exact ⟨0, Nat.le_refl _, rfl⟩
  | succ n ih =>
    intro hn h
    obtain ⟨x, h1, h2⟩ := ih (by omega) (fun k hk => h k (by omega))
    obtain ⟨q, p, h3, h4, h5, h6⟩ := h n (by omega)
    have e1 : q * p ≤ 99 * 9999 := Nat.mul_le_mul h3 h4
    exact ⟨x + q * p, by omega, by rw [sumA, h2, amS, xget_at (by omega) (by decide), xget_at (by omega) (by decide), h5, h6, pk_mul, nI_add]⟩
theorem PB_q {st : XS} {b n : Nat} (h : PB st b n) : ∀ k, k < n → ∃ kk q p r, kk < 4 ∧ q ≤ 99 ∧ p ≤ 9999 ∧ r ≤ 100 ∧ bK st b k = nI kk ∧ bQ st b k = nI q ∧ bP st b k = nI p ∧ bH st b kk = nI r := by
  intro k hk
  obtain ⟨kk, q, p, b1, b2, b3, b4, b5, b6, b7, b8, b9, b10, b11⟩ := h.2.2.2.2.2.2.2.2.2.2.2.2 k hk
  obtain ⟨r, r1, r2⟩ := h.2.2.2.2.2.2.2.2.2.2.2.1 kk (by omega)
  exact ⟨kk, q, p, r, by omega, b3, b5, r1, b6, b8, b10, r2⟩
theorem num_P {st : XS} {b n : Nat} (h : PB st b n) (hb30 : b < 30) (c idx : Int32) (hi : lnOk n idx) : N31 (numS st b n c idx) := by
  obtain ⟨a1, a2, a3, a4, a5, ⟨c9, a6, a7, a8⟩, ⟨d, a9, a10, a11⟩, ⟨p, a12, a13, a14⟩, ⟨w9, a15, a16, a17⟩, ⟨x, a18, a19, a20⟩, a21⟩ := id h
  have hq := PB_q h
  obtain ⟨sx, s1, s2⟩ := sumA_N (Q := bQ st b) (P := bP st b) n (by omega) (fun k hk => by obtain ⟨kk, q, p, r, h1, h2, h3, h4, h5, h6, h7, h8⟩ := hq k hk; exact ⟨q, p, h2, h3, h6, h7⟩)
  have hT := TmN_of (show n ≤ 6 by omega) hq
  have hs : sx ≤ 6000000 := by have := Nat.mul_le_mul_right 989901 a2; omega
  unfold numS
  rw [s2, a7, a10, a19, a5, nI_add]
  rcases hi with rfl | ⟨j, hj, rfl⟩
  · rw [am_m1, tm_m1, xget_m1, xget_m1, xget_m1]
    refine N31_ite (N31_n (by decide)) (N31_ite (N31_n (by omega)) (N31_ite (N31_n (by omega)) (N31_ite (N31_n (by omega)) (N31_ite ⟨0, by decide, by decide⟩ (N31_ite (N31_n (by decide)) (N31_ite (N31_n (by omega)) (N31_ite (N31_n (by omega)) (N31_ite (N31_n (by decide)) (N31_ite (N31_n (by decide)) (N31_ite (N31_n (by omega)) (N31_ite (N31_n (by omega)) ⟨0, by decide, by decide⟩)))))))))))
  · obtain ⟨kk, q, p, r, h1, h2, h3, h4, h5, h6, h7, h8⟩ := hq j hj
    obtain ⟨v, v1, v2⟩ := hT.2 j hj
    have e1 : q * p ≤ 99 * 9999 := Nat.mul_le_mul h2 h3
    rw [v2, hun_N (by omega), amS, xget_at (by omega) (by decide), xget_at (by omega) (by decide), xget_at (by omega) (by decide), h5, h6, h7, pk_mul, nI_add]
    refine N31_ite (N31_n (by omega)) (N31_ite (N31_n (by omega)) (N31_ite (N31_n (by omega)) (N31_ite (N31_n (by omega)) (N31_ite (N31_n (by omega)) (N31_ite (N31_n (by omega)) (N31_ite (N31_n (by omega)) (N31_ite (N31_n (by omega)) (N31_ite (N31_n (by omega)) (N31_ite (N31_n (by omega)) (N31_ite (N31_n (by omega)) (N31_ite (N31_n (by omega)) (N31_n (by omega)))))))))))))
