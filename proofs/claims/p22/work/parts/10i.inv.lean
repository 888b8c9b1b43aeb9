/-! ===== the invariant of the law's turns: the class's rows and the law's own ===== -/
def PA (Ls : List Nat) (mB : Nat) (st : XS) : Prop := (∀ k, xC k = true → k ∈ Ls) ∧ (∀ k, 31 ≤ k → k < 37 → k ∈ Ls) ∧ (∀ b, b ≤ mB → ∀ j, j < 6 → 100 + 6 * b + j ∈ Ls) ∧ (∀ b, mB < b → b < 33 → ∀ k, k ∈ LsB b → k ∉ Ls) ∧ (∀ j, j < 4 → 300 + 4 * 0 + j ∈ Ls) ∧ xCl st Ls ∧ (∀ k, 40 ≤ k → k < 50 → k ∉ Ls) ∧ (∀ i, mB ≤ i → i < 7 → 50 + i ∉ Ls) ∧ mB ≤ 7
def PR (n : Nat) (st : XS) : Prop := n ≤ 15 ∧ gi st 4 4 = nI n ∧ RtL (ga st 31) (ga st 13) (ga st 14) (ga st 15) (ga st 16) n
def PM (d : Nat) (st : XS) : Prop := gi st 4 0 = nI d ∧ (∀ i, i < 4 → ∃ w, w < 3 ∧ ga st 7 i = nI w) ∧ (∀ i, i < 2 → ga st 36 i = ga st 7 i) ∧ (∀ i, i < 10 → ∃ p, p < 2 ∧ ga st 8 i = nI p) ∧ ∀ i, i < 3 → ga st 35 i = ga st 8 i
/-- a line, of the class and of the law -/
def PL (st : XS) (b k : Nat) : Prop := ∃ kk q p, kk < 3 ∧ 1 ≤ q ∧ q ≤ 99 ∧ 1 ≤ p ∧ p ≤ 9999 ∧ bK st b k = nI kk ∧ ga st 33 (9 * b + 3 * k) = nI kk ∧ bQ st b k = nI q ∧ ga st 33 (9 * b + 3 * k + 1) = nI q ∧ bP st b k = nI p ∧ ga st 33 (9 * b + 3 * k + 2) = nI p
def PD (mB nb : Nat) (st : XS) : Prop := nb ≤ 3 ∧ gp st 8 0 = some (100 + 6 * mB) ∧ gi st 10 0 = nI mB ∧ gi st 3 (100 + 6 * mB) = nI nb ∧ gi st 12 (100 + 6 * mB) = nI 0 ∧ ∀ k, k < nb → PL st mB k
/-- an invoice -/
def PB (st : XS) (b n : Nat) : Prop := 0 < n ∧ n ≤ 3 ∧ gi st 3 (100 + 6 * b) = nI n ∧ ga st 32 (7 * b + 2) = nI n ∧ gi st 4 (100 + 6 * b) = nI b ∧ (∃ c9, c9 < 3 ∧ gi st 5 (100 + 6 * b) = nI c9 ∧ ga st 32 (7 * b) = nI c9) ∧ (∃ d, d ≤ 9999 ∧ gi st 6 (100 + 6 * b) = nI d ∧ ga st 32 (7 * b + 1) = nI d) ∧ (∃ p, p < 2 ∧ gi st 7 (100 + 6 * b) = nI p ∧ ga st 32 (7 * b + 3) = nI p) ∧ (∃ w, w < 3 ∧ gi st 8 (100 + 6 * b) = nI w ∧ ga st 32 (7 * b + 4) = nI w) ∧
  (∃ x, x ≤ 600000000 ∧ gi st 11 (100 + 6 * b) = nI x ∧ ga st 32 (7 * b + 5) = nI x) ∧ ga st 32 (7 * b + 6) = gi st 11 (100 + 6 * b) + gi st 12 (100 + 6 * b) ∧ (∀ k, k < 4 → ∃ r, r ≤ 100 ∧ bH st b k = nI r) ∧ ∀ k, k < n → PL st b k
def PBs (mB : Nat) (ln : Nat → Nat) (st : XS) : Prop := (∀ i, i < 30 → gb st 9 i = if i < mB then some (100 + 6 * i) else none) ∧ ∀ b, b < mB → PB st b (ln b)
def PN (nn : Nat) (st : XS) : Prop := nn ≤ 40 ∧ gi st 3 5 = nI nn
/-- the form: its codes -/
def fD : List Int32 := [1, 0, 7, 1, 2, 4, 2, 2, 5, 0, 1, 6, 0, 0, 1, 0, 8, 2, 4, 2, 5, 0, 1]
def fF : List Int32 := [110, 58, 0, 105, 97, 0, 120, 0, 62, 65, 107, 0, 66, 42, 113, 59, 0, 115, 0, 116, 61, 33, 103]
def fS (bd : Nat) : List Int32 := [0, 0, 0, 3, 0, 0, 0, nI bd, 12, 0, 0, 15, 0, 0, 0, 0, 3, 0, 0, 0, 22, 0, 9]
def FR (bd : Nat) (st : XS) : Prop := ∀ j, j < 23 → ga st 301 j = fD.getD j 0 ∧ ga st 302 j = fF.getD j 0 ∧ ga st 303 j = (fS bd).getD j 0
def PF (bd : Nat) (st : XS) : Prop := 100 ≤ bd ∧ bd < 1000 ∧ (∀ i, i < 6 → gb st 6 i = if i < 1 then some (300 + 4 * 0) else none) ∧ gi st 3 (300 + 4 * 0) = nI 23 ∧ FR bd st
/-- all but the labels; nb lines in the draft -/
def PI0 (st : XS) (bd d n mB nn nb : Nat) (ln : Nat → Nat) : Prop := PR n st ∧ PM d st ∧ PD mB nb st ∧ PBs mB ln st ∧ PN nn st ∧ PF bd st
def PI (Ls : List Nat) (st : XS) (bd d n mB nn : Nat) (ln : Nat → Nat) : Prop := PA Ls mB st ∧ PI0 st bd d n mB nn 0 ln
/-- what the turn's rows may not be: all that the invariant speaks of -/
def PKa (k : Nat) : Prop := k = 7 ∨ k = 8 ∨ (13 ≤ k ∧ k ≤ 16) ∨ (31 ≤ k ∧ k ≤ 33) ∨ k = 35 ∨ k = 36 ∨ (100 ≤ k ∧ k < 300) ∨ (300 ≤ k ∧ k < 304)
theorem PL_K {st u : XS} {b k : Nat} (h : PL st b k) (h1 : ∀ j, 1 ≤ j → j < 4 → ga u (100 + 6 * b + j) = ga st (100 + 6 * b + j)) (h2 : ∀ i, i < 3 → ga u 33 (9 * b + 3 * k + i) = ga st 33 (9 * b + 3 * k + i)) : PL u b k := by
  obtain ⟨kk, q, p, a1, a2, a3, a4, a5, a6, a7, a8, a9, a10, a11⟩ := h
  refine ⟨kk, q, p, a1, a2, a3, a4, a5, ?_, (h2 0 (by decide)).trans a7, ?_, (h2 1 (by decide)).trans a9, ?_, (h2 2 (by decide)).trans a11⟩
  · unfold bK; rw [h1 1 (by decide) (by decide)]; exact a6
  · unfold bQ; rw [h1 2 (by decide) (by decide)]; exact a8
  · unfold bP; rw [h1 3 (by decide) (by decide)]; exact a10
theorem PB_K {st u : XS} {b n : Nat} (h : PB st b n) (h0 : ∀ f, gi u f (100 + 6 * b) = gi st f (100 + 6 * b)) (h1 : ∀ j, 1 ≤ j → j < 6 → ga u (100 + 6 * b + j) = ga st (100 + 6 * b + j)) (h2 : ∀ i, i < 7 → ga u 32 (7 * b + i) = ga st 32 (7 * b + i)) (h3 : ∀ k, k < n → ∀ i, i < 3 → ga u 33 (9 * b + 3 * k + i) = ga st 33 (9 * b + 3 * k + i)) : PB u b n := by
  obtain ⟨a1, a2, a3, a4, a5, a6, a7, a8, a9, a10, a11, a12, a13⟩ := h
  unfold PB bH
  rw [h0, h0, h0, h0, h0, h0, h0, h0, h2 2 (by decide), h2 1 (by decide), show ga u 32 (7 * b) = ga st 32 (7 * b) from h2 0 (by decide), h2 3 (by decide), h2 4 (by decide), h2 5 (by decide), h2 6 (by decide), h1 5 (by decide) (by decide)]
  exact ⟨a1, a2, a3, a4, a5, a6, a7, a8, a9, a10, a11, a12, fun k hk => PL_K (a13 k hk) (fun j j1 j2 => h1 j j1 (by omega)) (h3 k hk)⟩
/-- a state that agrees in all that the invariant speaks of -/
theorem PI0_K {st u : XS} {bd d n mB nn nb : Nat} {ln : Nat → Nat} (hm : mB ≤ 7) (h : PI0 st bd d n mB nn nb ln) (h1 : ∀ f k, ¬ k = 3 → gi u f k = gi st f k) (h2 : ∀ f k, gp u f k = gp st f k) (h3 : ∀ k, PKa k → ga u k = ga st k) (h4 : ∀ k, gb u k = gb st k) : PI0 u bd d n mB nn nb ln := by
  obtain ⟨⟨r1, r2, r3⟩, ⟨m1, m2, m3, m4, m5⟩, ⟨d1, d2, d3, d4, d5, d6⟩, ⟨b1, b2⟩, ⟨n1, n2⟩, ⟨f1, f2, f3, f4, f5⟩⟩ := h
  have gk : ∀ f b, gi u f (100 + 6 * b) = gi st f (100 + 6 * b) := fun f b => h1 f _ (by omega)
  have ak : ∀ b j, b ≤ 7 → j < 6 → ga u (100 + 6 * b + j) = ga st (100 + 6 * b + j) := fun b j hb hj => h3 _ (by unfold PKa; omega)
  have a33 : ga u 33 = ga st 33 := h3 33 (by unfold PKa; omega)
  refine ⟨⟨r1, (h1 4 4 (by decide)).trans r2, ?_⟩, ⟨(h1 4 0 (by decide)).trans m1, ?_, ?_, ?_, ?_⟩, ⟨d1, (h2 8 0).trans d2, (h1 10 0 (by decide)).trans d3, (gk 3 mB).trans d4, (gk 12 mB).trans d5, fun k hk => PL_K (d6 k hk) (fun j j1 j2 => ak mB j (by omega) (by omega)) (fun i hi => by rw [a33])⟩, ⟨fun i hi => by rw [h4]; exact b1 i hi, fun b hb => PB_K (b2 b hb) (fun f => gk f b) (fun j j1 j2 => ak b j (by omega) j2) (fun i hi => by rw [h3 32 (by unfold PKa; omega)]) (fun k hk i hi => by rw [a33])⟩, ⟨n1, (h1 3 5 (by decide)).trans n2⟩, ⟨f1, f2, fun i hi => by rw [h4]; exact f3 i hi, (h1 3 _ (by decide)).trans f4, ?_⟩⟩
  · rw [h3 31 (by unfold PKa; omega), h3 13 (by unfold PKa; omega), h3 14 (by unfold PKa; omega), h3 15 (by unfold PKa; omega), h3 16 (by unfold PKa; omega)]; exact r3
  · rw [h3 7 (by unfold PKa; omega)]; exact m2
  · rw [h3 7 (by unfold PKa; omega), h3 36 (by unfold PKa; omega)]; exact m3
  · rw [h3 8 (by unfold PKa; omega)]; exact m4
  · rw [h3 8 (by unfold PKa; omega), h3 35 (by unfold PKa; omega)]; exact m5
  · intro j hj
    rw [h3 301 (by unfold PKa; omega), h3 302 (by unfold PKa; omega), h3 303 (by unfold PKa; omega)]; exact f5 j hj
theorem PA_K {Ls : List Nat} {st u : XS} {mB : Nat} (h : PA Ls mB st) (h2 : ∀ f k, gp u f k = gp st f k) (h4 : ∀ k, gb u k = gb st k) : PA Ls mB u := by
  obtain ⟨a1, a2, a3, a4, a5, a6, a7⟩ := h
  exact ⟨a1, a2, a3, a4, a5, fun k hk => ⟨fun a f hf => ⟨((a6 k hk).1 a f hf).1, fun q j hj => ((a6 k hk).1 a f hf).2 q j (by rw [← h2]; exact hj)⟩, fun a i j hj => (a6 k hk).2 a i j (by rw [← h4]; exact hj)⟩, a7⟩
/-- the lines of the invoices, and none in the draft -/
def lnX (mB nb : Nat) (ln : Nat → Nat) : Nat → Nat := fun b => if b = mB then nb else ln b
theorem lnX_lt {mB nb b : Nat} {ln : Nat → Nat} (h : b < mB) : lnX mB nb ln b = ln b := if_neg (by omega)
theorem hln_of {st : XS} {mB nb : Nat} {ln : Nat → Nat} (hd : PD mB nb st) (hb : PBs mB ln st) : ∀ b, b ≤ mB → lnX mB nb ln b ≤ 6 ∧ gi st 3 (100 + 6 * b) = nI (lnX mB nb ln b) := by
  intro b h
  unfold lnX
  by_cases e : b = mB
  · subst e; rw [if_pos rfl]; exact ⟨by have := hd.1; omega, hd.2.2.2.1⟩
  · rw [if_neg e]
    have := hb.2 b (by omega)
    exact ⟨by have := this.2.1; omega, this.2.2.1⟩
