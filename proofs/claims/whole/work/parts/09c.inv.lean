/-! ===== the invariant of the law's loop ===== -/
/-- a form and a template's rows write the same, whatever the rows hold behind 160 places -/
def FormOK (D F S : Nat → Int32) (gn : Nat) (X mk bo ot : Nat → Int32) (sz : Nat) : Prop := ∀ (X' mk' bo' ot' : Nat → Int32), (∀ i, i < 160 → X' i = X i ∧ mk' i = mk i ∧ bo' i = bo i ∧ ot' i = ot i) →
  ∀ (nm1 : Int32 → Int32 → Int32) (nm2 : Option Nat → Int32 → Int32) (n : Nat) (wn lo0 : Int32) (dg0 : Nat → Int32) (M : Nat), M = 1000000 → 0 < n → n ≤ 6 → (∀ o x, (∀ j, o = some j → j < n) → nmB x o.isSome = true → ∃ q, q < 2 ^ 31 ∧ nm2 o x = nI q ∧ nm1 x (oI o) = nI q) →
  ∃ N x1 o1 lo1, WRun X' mk' bo' ot' nm2 n wn sz N (0, (nI 0, nI 32), none, lo0) (sz, x1, o1, lo1) ∧ (runS D F S nm1 n wn (nI gn) M (nI 0, dg0, -1, 0, 0, nI 0, nI 32)).2.2.2.2 = x1
theorem FormOK_K {D F S : Nat → Int32} {gn sz : Nat} {X mk bo ot X1 mk1 bo1 ot1 : Nat → Int32} (h : FormOK D F S gn X mk bo ot sz) (he : ∀ i, i < 160 → X1 i = X i ∧ mk1 i = mk i ∧ bo1 i = bo i ∧ ot1 i = ot i) : FormOK D F S gn X1 mk1 bo1 ot1 sz :=
  fun X' mk' bo' ot' h1 => h X' mk' bo' ot' (fun i hi => ⟨(h1 i hi).1.trans (he i hi).1, (h1 i hi).2.1.trans (he i hi).2.1, (h1 i hi).2.2.1.trans (he i hi).2.2.1, (h1 i hi).2.2.2.trans (he i hi).2.2.2⟩)
def LIa (Ls : List Nat) (nB nF : Nat) (st : XS) : Prop := (∀ k, xC k = true → k ∈ Ls) ∧ 90 ∈ Ls ∧ (∀ k, k ∈ LsM → k ∈ Ls) ∧ (∀ b, b ≤ nB → ∀ j, j < 6 → 100 + 6 * b + j ∈ Ls) ∧ (∀ b, nB < b → b < 33 → ∀ k, k ∈ LsB b → k ∉ Ls) ∧ (∀ f, f ≤ nF → ∀ j, j < 4 → 300 + 4 * f + j ∈ Ls) ∧ (∀ f, nF < f → ∀ k, k ∈ LsF f → k ∉ Ls) ∧ xCl st Ls ∧ nB ≤ 30 ∧ nF ≤ 6
def LIp (st : XS) (np : Nat) : Prop := np ≤ 160 ∧ gi st 1 2 = nI np ∧ gi st 1 30 = nI np ∧ ∀ i, i < np → ga st 32 i = ga st 11 i ∧ ∃ n, 32 ≤ n ∧ n ≤ 126 ∧ ga st 11 i = nI n
def LIf (st : XS) (g nF : Nat) (fm fz sz : Nat → Nat) : Prop := g ≤ nF ∧ gp st 1 1 = some (300 + 4 * g) ∧ gi st 3 0 = nI nF ∧ gi st 3 30 = nI nF ∧ (∀ i, i < 6 → gb st 6 i = if i < nF then some (300 + 4 * fm i) else none) ∧
  (∀ j, j < nF → fm j ≤ nF ∧ fm j ≠ g ∧ gi st 3 (300 + 4 * fm j) = nI (fz j) ∧ ga st 34 j = nI (sz j) ∧ sz j ≤ 160 ∧ FormOK (ga st (300 + 4 * fm j + 1)) (ga st (300 + 4 * fm j + 2)) (ga st (300 + 4 * fm j + 3)) (fz j) (wRo st 35 (160 * j)) (wRo st 36 (160 * j)) (wRo st 37 (160 * j)) (wRo st 38 (160 * j)) (sz j)) ∧ ∀ i j, i < nF → j < nF → fm i = fm j → i = j
def LIr (st : XS) (nr : Nat) : Prop := nr ≤ 60 ∧ gi st 4 4 = nI nr ∧ gi st 17 30 = nI nr ∧ ∀ i, i < nr → ga st 48 i = ga st 13 i ∧ ga st 49 i = ga st 14 i ∧ ga st 50 i = ga st 15 i ∧ ga st 51 i = ga st 16 i ∧ (∃ h, h ≤ 100 ∧ ga st 15 i = nI h) ∧ ∃ d, d ≤ 9999 ∧ ga st 16 i = nI d
def LIm (st : XS) (t td : Nat) : Prop := td ≤ 99 * t ∧ gi st 4 0 = nI td ∧ gi st 16 30 = nI td ∧ (∀ i, i < 4 → ga st 52 i = ga st 7 i ∧ ∃ w, w < 3 ∧ ga st 7 i = nI w) ∧ ∀ i, i < 10 → ga st 53 i = ga st 8 i ∧ ∃ p, p < 4 ∧ ga st 8 i = nI p
def LId (st : XS) (nB nb : Nat) : Prop := nb ≤ 6 ∧ gp st 8 0 = some (100 + 6 * nB) ∧ gi st 3 (100 + 6 * nB) = nI nb ∧ gi st 24 30 = nI nb ∧ gi st 12 (100 + 6 * nB) = nI 0 ∧
  ∀ i, i < nb → ∃ k q p, k < 4 ∧ 1 ≤ q ∧ q ≤ 99 ∧ 1 ≤ p ∧ p ≤ 9999 ∧ bK st nB i = nI k ∧ ga st 55 i = nI k ∧ bQ st nB i = nI q ∧ ga st 56 i = nI q ∧ bP st nB i = nI p ∧ ga st 57 i = nI p
/-- a line of an invoice -/
def LL (st : XS) (nr b k : Nat) (o : Option Nat) : Prop := ∃ kk q p, kk < 4 ∧ 1 ≤ q ∧ q ≤ 99 ∧ 1 ≤ p ∧ p ≤ 9999 ∧ bK st b k = nI kk ∧ ga st 64 (6 * b + k) = nI kk ∧ bQ st b k = nI q ∧ ga st 65 (6 * b + k) = nI q ∧ bP st b k = nI p ∧ ga st 66 (6 * b + k) = nI p ∧
  (∀ j, o = some j → j < nr) ∧ bT st b kk = oI o ∧ bH st b kk = mrS st o
/-- an invoice -/
def LB (st : XS) (nr t b n : Nat) (us : Nat → Option Nat) : Prop := 0 < n ∧ n ≤ 6 ∧ gi st 3 (100 + 6 * b) = nI n ∧ ga st 61 b = nI n ∧ gi st 4 (100 + 6 * b) = nI b ∧ (∃ c9, c9 < 10 ∧ gi st 5 (100 + 6 * b) = nI c9 ∧ ga st 59 b = nI c9) ∧ (∃ d, d ≤ 99 * t ∧ gi st 6 (100 + 6 * b) = nI d ∧ ga st 60 b = nI d) ∧ (∃ p, p < 4 ∧ gi st 7 (100 + 6 * b) = nI p ∧ ga st 62 b = nI p) ∧ (∃ w, w < 3 ∧ gi st 8 (100 + 6 * b) = nI w ∧ ga st 63 b = nI w) ∧ (∃ x, x ≤ 600000000 ∧ gi st 11 (100 + 6 * b) = nI x ∧ ga st 68 b = nI x) ∧ ∀ k, k < n → LL st nr b k (us (6 * b + k))
def LIb (st : XS) (nr t nB : Nat) (ln : Nat → Nat) (us : Nat → Option Nat) : Prop := gi st 10 0 = nI nB ∧ gi st 28 30 = nI nB ∧ (∀ i, i < 30 → gb st 9 i = if i < nB then some (100 + 6 * i) else none) ∧ (∀ b, b < nB → LB st nr t b (ln b) us) ∧ ∀ i, i < 180 → (∀ j, us i = some j → j < 60) ∧ ga st 67 i = oI (us i)
def ntS (st : XS) (b : Nat) : Nat → Int32
  | 0 => nI 0
  | k + 1 => ntS st b k + (if ga st 72 k = nI b then ga st 73 k else nI 0)
def LIn (st : XS) (nB nl : Nat) : Prop := nl ≤ 40 ∧ gi st 3 5 = nI nl ∧ gi st 41 30 = nI nl ∧ (∀ i, i < nl → ga st 72 i = ga st 17 i ∧ ga st 73 i = ga st 18 i ∧ ga st 74 i = ga st 19 i ∧ ∃ b, b < nB ∧ ga st 72 i = nI b) ∧ ∀ b, b < nB → gi st 12 (100 + 6 * b) = ntS st b nl
def LI (t : Nat) (Ls : List Nat) (st : XS) : Prop := ∃ (np g nF : Nat) (fm fz sz : Nat → Nat) (nr td nB nb : Nat) (ln : Nat → Nat) (us : Nat → Option Nat) (nl : Nat),
  LIa Ls nB nF st ∧ LIp st np ∧ LIf st g nF fm fz sz ∧ LIr st nr ∧ LIm st t td ∧ LId st nB nb ∧ LIb st nr t nB ln us ∧ LIn st nB nl
section KK
variable {st u : XS}
theorem xCl_K {Ls : List Nat} (h1 : ∀ f k, gp u f k = gp st f k) (h2 : ∀ k, gb u k = gb st k) (h : xCl st Ls) : xCl u Ls :=
  fun k hk => ⟨fun a f hf => ⟨((h k hk).1 a f hf).1, fun q j hj => ((h k hk).1 a f hf).2 q j (by rw [← h1]; exact hj)⟩, fun a i j hj => (h k hk).2 a i j (by rw [← h2]; exact hj)⟩
theorem LIa_K {Ls : List Nat} {nB nF : Nat} (h1 : ∀ f k, gp u f k = gp st f k) (h2 : ∀ k, gb u k = gb st k) (h : LIa Ls nB nF st) : LIa Ls nB nF u := by
  obtain ⟨a1, a2, a3, a4, a5, a6, a7, a8, a9⟩ := h
  exact ⟨a1, a2, a3, a4, a5, a6, a7, xCl_K h1 h2 a8, a9⟩
theorem LIp_K {np : Nat} (h1 : gi u 1 2 = gi st 1 2) (h2 : gi u 1 30 = gi st 1 30) (h3 : ga u 11 = ga st 11) (h4 : ga u 32 = ga st 32) (h : LIp st np) : LIp u np := by
  unfold LIp; rw [h1, h2, h3, h4]; exact h
theorem wRo_K {k : Nat} (h : ga u k = ga st k) (bs : Nat) : wRo u k bs = wRo st k bs := by unfold wRo; rw [h]
theorem LIf_K {g nF : Nat} {fm fz sz : Nat → Nat} (h1 : gp u 1 1 = gp st 1 1) (h2 : gi u 3 0 = gi st 3 0) (h3 : gi u 3 30 = gi st 3 30) (h4 : gb u 6 = gb st 6) (h5 : ∀ f, f ≤ nF → gi u 3 (300 + 4 * f) = gi st 3 (300 + 4 * f)) (h6 : ∀ f, f ≤ nF → ∀ j, 1 ≤ j → j < 4 → ga u (300 + 4 * f + j) = ga st (300 + 4 * f + j)) (h7 : ga u 34 = ga st 34) (h8 : ga u 35 = ga st 35) (h9 : ga u 36 = ga st 36) (h10 : ga u 37 = ga st 37) (h11 : ga u 38 = ga st 38) (h : LIf st g nF fm fz sz) : LIf u g nF fm fz sz := by
  obtain ⟨a1, a2, a3, a4, a5, a6, a7⟩ := h
  refine ⟨a1, h1.trans a2, h2.trans a3, h3.trans a4, fun i hi => by rw [h4]; exact a5 i hi, fun j hj => ?_, a7⟩
  obtain ⟨b1, b2, b3, b4, b5, b6⟩ := a6 j hj
  refine ⟨b1, b2, (h5 _ b1).trans b3, by rw [h7]; exact b4, b5, ?_⟩
  rw [h6 _ b1 1 (by decide) (by decide), h6 _ b1 2 (by decide) (by decide), h6 _ b1 3 (by decide) (by decide), wRo_K h8, wRo_K h9, wRo_K h10, wRo_K h11]
  exact b6
theorem LIr_K {nr : Nat} (h1 : gi u 4 4 = gi st 4 4) (h2 : gi u 17 30 = gi st 17 30) (h3 : ga u 13 = ga st 13) (h4 : ga u 14 = ga st 14) (h5 : ga u 15 = ga st 15) (h6 : ga u 16 = ga st 16) (h7 : ga u 48 = ga st 48) (h8 : ga u 49 = ga st 49) (h9 : ga u 50 = ga st 50) (h10 : ga u 51 = ga st 51) (h : LIr st nr) : LIr u nr := by
  unfold LIr; rw [h1, h2, h3, h4, h5, h6, h7, h8, h9, h10]; exact h
theorem LIm_K {t t' td : Nat} (ht : t ≤ t') (h1 : gi u 4 0 = gi st 4 0) (h2 : gi u 16 30 = gi st 16 30) (h3 : ga u 52 = ga st 52) (h4 : ga u 53 = ga st 53) (h5 : ga u 7 = ga st 7) (h6 : ga u 8 = ga st 8) (h : LIm st t td) : LIm u t' td := by
  unfold LIm; rw [h1, h2, h3, h4, h5, h6]; exact ⟨Nat.le_trans h.1 (Nat.mul_le_mul_left 99 ht), h.2⟩
theorem LId_K {nB nb : Nat} (h1 : gp u 8 0 = gp st 8 0) (h2 : gi u 3 (100 + 6 * nB) = gi st 3 (100 + 6 * nB)) (h3 : gi u 24 30 = gi st 24 30) (h4 : gi u 12 (100 + 6 * nB) = gi st 12 (100 + 6 * nB)) (h5 : ∀ j, 1 ≤ j → j < 4 → ga u (100 + 6 * nB + j) = ga st (100 + 6 * nB + j)) (h6 : ga u 55 = ga st 55) (h7 : ga u 56 = ga st 56) (h8 : ga u 57 = ga st 57) (h : LId st nB nb) : LId u nB nb := by
  unfold LId bK bQ bP; rw [h1, h2, h3, h4, h5 1 (by decide) (by decide), h5 2 (by decide) (by decide), h5 3 (by decide) (by decide), h6, h7, h8]; exact h
theorem LL_K {nr nr' b k : Nat} {o : Option Nat} (hr : nr ≤ nr') (h1 : ∀ j, 1 ≤ j → j < 6 → ga u (100 + 6 * b + j) = ga st (100 + 6 * b + j)) (h2 : ga u 64 (6 * b + k) = ga st 64 (6 * b + k)) (h3 : ga u 65 (6 * b + k) = ga st 65 (6 * b + k)) (h4 : ga u 66 (6 * b + k) = ga st 66 (6 * b + k)) (h5 : ∀ i, i < nr → ga u 50 i = ga st 50 i) (h : LL st nr b k o) : LL u nr' b k o := by
  obtain ⟨kk, q, p, a1, a2, a3, a4, a5, a6, a7, a8, a9, a10, a11, a12, a13, a14⟩ := h
  refine ⟨kk, q, p, a1, a2, a3, a4, a5, ?_, h2.trans a7, ?_, h3.trans a9, ?_, h4.trans a11, fun j hj => Nat.lt_of_lt_of_le (a12 j hj) hr, ?_, ?_⟩
  · unfold bK; rw [h1 1 (by decide) (by decide)]; exact a6
  · unfold bQ; rw [h1 2 (by decide) (by decide)]; exact a8
  · unfold bP; rw [h1 3 (by decide) (by decide)]; exact a10
  · unfold bT; rw [h1 4 (by decide) (by decide)]; exact a13
  · unfold bH; rw [h1 5 (by decide) (by decide)]
    refine a14.trans ?_
    rcases o with _ | j
    · rfl
    · exact (h5 j (a12 j rfl)).symm
theorem LB_K {nr nr' t t' b n : Nat} {us us' : Nat → Option Nat} (hr : nr ≤ nr') (ht : t ≤ t') (hus : ∀ k, k < n → us' (6 * b + k) = us (6 * b + k)) (h0 : ∀ f, ¬ f = 12 → gi u f (100 + 6 * b) = gi st f (100 + 6 * b)) (h1 : ∀ j, 1 ≤ j → j < 6 → ga u (100 + 6 * b + j) = ga st (100 + 6 * b + j)) (h2 : ∀ r, 58 < r → r < 64 → ga u r b = ga st r b) (h3 : ga u 68 b = ga st 68 b) (h4 : ∀ r k, 63 < r → r < 67 → k < n → ga u r (6 * b + k) = ga st r (6 * b + k)) (h5 : ∀ i, i < nr → ga u 50 i = ga st 50 i) (h : LB st nr t b n us) : LB u nr' t' b n us' := by
  obtain ⟨a1, a2, a3, a4, a5, ⟨c9, a6, a7, a8⟩, ⟨d, a9, a10, a11⟩, ⟨p, a12, a13, a14⟩, ⟨w, a15, a16, a17⟩, ⟨x, a18, a19, a20⟩, a21⟩ := h
  refine ⟨a1, a2, (h0 3 (by decide)).trans a3, (h2 61 (by decide) (by decide)).trans a4, (h0 4 (by decide)).trans a5, ⟨c9, a6, (h0 5 (by decide)).trans a7, (h2 59 (by decide) (by decide)).trans a8⟩, ⟨d, Nat.le_trans a9 (Nat.mul_le_mul_left 99 ht), (h0 6 (by decide)).trans a10, (h2 60 (by decide) (by decide)).trans a11⟩, ⟨p, a12, (h0 7 (by decide)).trans a13, (h2 62 (by decide) (by decide)).trans a14⟩, ⟨w, a15, (h0 8 (by decide)).trans a16, (h2 63 (by decide) (by decide)).trans a17⟩, ⟨x, a18, (h0 11 (by decide)).trans a19, h3.trans a20⟩, fun k hk => ?_⟩
  rw [hus k hk]
  exact LL_K hr h1 (h4 64 k (by decide) (by decide) hk) (h4 65 k (by decide) (by decide) hk) (h4 66 k (by decide) (by decide) hk) h5 (a21 k hk)
theorem LIb_K {nr nr' t t' nB : Nat} {ln : Nat → Nat} {us : Nat → Option Nat} (hr : nr ≤ nr') (ht : t ≤ t') (g1 : gi u 10 0 = gi st 10 0) (g2 : gi u 28 30 = gi st 28 30) (g3 : gb u 9 = gb st 9) (h0 : ∀ b, b < nB → ∀ f, ¬ f = 12 → gi u f (100 + 6 * b) = gi st f (100 + 6 * b)) (h1 : ∀ b, b < nB → ∀ j, 1 ≤ j → j < 6 → ga u (100 + 6 * b + j) = ga st (100 + 6 * b + j)) (h2 : ∀ r, 58 < r → r < 69 → ga u r = ga st r) (h5 : ∀ i, i < nr → ga u 50 i = ga st 50 i) (h : LIb st nr t nB ln us) : LIb u nr' t' nB ln us := by
  obtain ⟨a1, a2, a3, a4, a5⟩ := h
  refine ⟨g1.trans a1, g2.trans a2, fun i hi => by rw [g3]; exact a3 i hi, fun b hb => LB_K hr ht (fun _ _ => rfl) (h0 b hb) (h1 b hb) (fun r r1 r2 => by rw [h2 r r1 (by omega)]) (by rw [h2 68 (by decide) (by decide)]) (fun r k r1 r2 _ => by rw [h2 r (by omega) (by omega)]) h5 (a4 b hb), fun i hi => ?_⟩
  rw [h2 67 (by decide) (by decide)]; exact a5 i hi
theorem ntS_K {b : Nat} (h1 : ga u 72 = ga st 72) (h2 : ga u 73 = ga st 73) : ∀ n, ntS u b n = ntS st b n := by
  intro n
  induction n with
  | zero => rfl
  | succ n ih => rw [ntS, ntS, ih, h1, h2]
theorem LIn_K {nB nl : Nat} (h1 : gi u 3 5 = gi st 3 5) (h2 : gi u 41 30 = gi st 41 30) (h3 : ga u 17 = ga st 17) (h4 : ga u 18 = ga st 18) (h5 : ga u 19 = ga st 19) (h6 : ga u 72 = ga st 72) (h7 : ga u 73 = ga st 73) (h8 : ga u 74 = ga st 74) (h9 : ∀ b, b < nB → gi u 12 (100 + 6 * b) = gi st 12 (100 + 6 * b)) (h : LIn st nB nl) : LIn u nB nl := by
  obtain ⟨a1, a2, a3, a4, a5⟩ := h
  refine ⟨a1, h1.trans a2, h2.trans a3, ?_, fun b hb => by rw [h9 b hb, ntS_K h6 h7]; exact a5 b hb⟩
  rw [h3, h4, h5, h6, h7, h8]; exact a4
end KK
