/-! ===== an invoice's text ===== -/
def qN (st : XS) (b k : Nat) : Nat := (ga st 33 (9 * b + 3 * k + 1)).toNatClampNeg
def pN (st : XS) (b k : Nat) : Nat := (ga st 33 (9 * b + 3 * k + 2)).toNatClampNeg
def rN (st : XS) (b k : Nat) : Nat := (bH st b (kN st b k)).toNatClampNeg
def amN (st : XS) (b k : Nat) : Nat := qN st b k * pN st b k
def xN9 (st : XS) (b k : Nat) : Nat := (amN st b k * rN st b k + 50) / 100
def sN (st : XS) (b n : Nat) : Nat := (sumA (bQ st b) (bP st b) n).toNatClampNeg
def tN (st : XS) (b : Nat) : Nat := (gi st 11 (100 + 6 * b)).toNatClampNeg
def lnN (st : XS) (bd b j : Nat) : List Int32 := lnT bd j (kN st b j) (amN st b j) (xN9 st b j) (qN st b j)
def txN (st : XS) (bd b n : Nat) : List Int32 := txT b (lnsT (lnN st bd b) n) (sN st b n) (tN st b)
theorem ln_N {st : XS} {b n k : Nat} (h : PB st b n) (hk : k < n) : kN st b k < 3 ∧ 1 ≤ qN st b k ∧ qN st b k ≤ 99 ∧ 1 ≤ pN st b k ∧ pN st b k ≤ 9999 ∧ rN st b k ≤ 100 ∧ bK st b k = nI (kN st b k) ∧ bQ st b k = nI (qN st b k) ∧ bP st b k = nI (pN st b k) ∧ bH st b (kN st b k) = nI (rN st b k) ∧ ga st 33 (9 * b + 3 * k) = nI (kN st b k) ∧ ga st 33 (9 * b + 3 * k + 1) = nI (qN st b k) ∧ ga st 33 (9 * b + 3 * k + 2) = nI (pN st b k) ∧ amN st b k ≤ 989901 ∧ xN9 st b k ≤ 989902 := by
  have hL := h.2.2.2.2.2.2.2.2.2.2.2.2 k hk
  have hkN := kN_of hL
  obtain ⟨kk, q, p, b1, b2, b3, b4, b5, b6, b7, b8, b9, b10, b11⟩ := hL
  obtain ⟨r, r1, r2⟩ := h.2.2.2.2.2.2.2.2.2.2.2.1 (kN st b k) (by omega)
  have eq : qN st b k = q := by unfold qN; rw [b9, nI_clamp (by omega)]
  have ep : pN st b k = p := by unfold pN; rw [b11, nI_clamp (by omega)]
  have er : rN st b k = r := by unfold rN; rw [r2, nI_clamp (by omega)]
  have e1 : q * p ≤ 99 * 9999 := Nat.mul_le_mul b3 b5
  have e2 : q * p * r ≤ 99 * 9999 * 100 := Nat.mul_le_mul e1 r1
  have ex : xN9 st b k = (q * p * r + 50) / 100 := by unfold xN9 amN; rw [eq, ep, er]
  have ea : amN st b k = q * p := by unfold amN; rw [eq, ep]
  rw [eq, ep, er, ex, ea]
  exact ⟨hkN.1, b2, b3, b4, b5, r1, hkN.2.2.1, b8, b10, r2, hkN.2.1, b9, b11, by omega, by omega⟩
theorem s_N {st : XS} {b n : Nat} (h : PB st b n) : sumA (bQ st b) (bP st b) n = nI (sN st b n) ∧ sN st b n ≤ 2969703 := by
  obtain ⟨sx, s1, s2⟩ := sumA_N (Q := bQ st b) (P := bP st b) n (by have := h.2.1; omega) (fun k hk => by obtain ⟨kk, q, p, r, h1, h2, h3, h4, h5, h6, h7, h8⟩ := PB_q h k hk; exact ⟨q, p, h2, h3, h6, h7⟩)
  have h3 := Nat.mul_le_mul_right 989901 h.2.1
  have e : sN st b n = sx := by unfold sN; rw [s2, nI_clamp (by omega)]
  rw [e]; exact ⟨s2, by omega⟩
theorem t_N {st : XS} {b n : Nat} (h : PB st b n) : gi st 11 (100 + 6 * b) = nI (tN st b) ∧ tN st b ≤ 600000000 := by
  obtain ⟨x, x1, x2, x3⟩ := h.2.2.2.2.2.2.2.2.2.1
  have e : tN st b = x := by unfold tN; rw [x2, nI_clamp (by omega)]
  rw [e]; exact ⟨x2, x1⟩
theorem numT_len9 {m w : Nat} (hm : m < 10 ^ 9) (hw : w ≤ 9) : (numT m w).length ≤ 9 := by
  rw [numT_len]; have := dsz_le9 hm; omega
theorem lnT_len {bd k kk am x q : Nat} (hk : k < 10) (hkk : kk < 10) (hq : q < 1000) : (lnT bd k kk am x q).length ≤ 21 := by
  unfold lnT
  have h1 := numT_len9 (m := k + 1) (w := 3) (by omega) (by decide)
  have h2 := numT_len9 (m := kk) (w := 0) (by omega) (by decide)
  have h3 := numT_len9 (m := q) (w := 0) (by omega) (by decide)
  rw [List.length_append, List.length_append]
  split
  · simp only [List.length_cons, List.length_nil]; omega
  · simp only [List.length_cons, List.length_nil]; omega
theorem lnsT_len {f : Nat → List Int32} : ∀ n, (∀ k, k < n → (f k).length ≤ 21) → (lnsT f n).length ≤ 21 * n := by
  intro n
  induction n with
  | zero => intro _; exact Nat.le_refl _
  | succ n ih =>
    intro h
    rw [lnsT, List.length_append]
    have := ih (fun k hk => h k (by omega))
    have := h n (by omega)
    omega
theorem txN_len {st : XS} {bd b n : Nat} (h : PB st b n) (hb : b < 30) : (txN st bd b n).length < 1000 := by
  have hn3 := h.2.1
  have hs := (s_N h).2
  have ht := (t_N h).2
  have h1 := numT_len9 (m := b) (w := 0) (by omega) (by decide)
  have h2 := numT_len9 (m := sN st b n + tN st b) (w := 9) (by omega) (by decide)
  have h3 := lnsT_len (f := lnN st bd b) n (fun k hk => by
    obtain ⟨k1, k2, k3, _⟩ := ln_N h hk
    exact lnT_len (by omega) (by omega) (by omega))
  unfold txN txT
  rw [List.length_append, List.length_append, List.length_append, List.length_append]
  split
  · simp only [List.length_cons, List.length_nil]; omega
  · simp only [List.length_cons, List.length_nil]; omega
theorem WOK_of {Ls : List Nat} {st : XS} {bd d n mB nn b : Nat} {ln : Nat → Nat} (h : PI Ls st bd d n mB nn ln) (hb : b < mB) : WOK Ls st mB (lnX mB 0 ln) 23 b (txN st bd b (ln b)) := by
  obtain ⟨hA, hR, hM, hD, hB, hN, hF⟩ := h
  have hm := hA.2.2.2.2.2.2.2.2
  have hBb := hB.2 b hb
  refine ⟨hA.1, hm, hB.1, hA.2.2.1, hln_of hD hB, hF.2.2.1, hA.2.2.2.2.1, hF.2.2.2.1, fun c hc => ?_, hb, txN_len hBb (by omega), fun wn dg => ?_⟩
  · rw [lnX_lt hc]
    exact ⟨(hB.2 c hc).1, fun name idx hi => N31_c (num_P (hB.2 c hc) (by omega) name idx hi)⟩
  · rw [lnX_lt hb]
    have hs := s_N hBb
    have ht := t_N hBb
    have hn3 := hBb.2.1
    refine run_all hF.2.2.2.2 hF.2.1 hBb.1 (by omega) (fun i hi => ?_) ?_ ?_ ?_ ?_ (by omega) (by omega) (by omega) dg _ (by decide)
    · obtain ⟨k1, k2, k3, k4, k5, k6, k7, k8, k9, k10, k11, k12, k13, k14, k15⟩ := ln_N hBb hi
      have eA : amS (bQ st b) (bP st b) (nI i) = nI (amN st b i) := by unfold amS amN; rw [xget_at (by omega) (by decide), xget_at (by omega) (by decide), k8, k9, pk_mul]
      refine ⟨?_, ?_, ?_, ?_, ?_, by omega, by omega, by omega, by omega, by omega⟩
      · unfold numS; rw [if_neg (by decide), if_neg (by decide), if_neg (by decide), if_neg (by decide), if_pos (by decide), nI_add]
      · unfold numS; rw [if_pos (by decide)]; exact eA
      · unfold numS
        rw [if_neg (by decide), if_neg (by decide), if_neg (by decide), if_neg (by decide), if_neg (by decide), if_neg (by decide), if_neg (by decide), if_neg (by decide), if_neg (by decide), if_neg (by decide), if_neg (by decide), if_neg (by decide)]
        have hr : amN st b i * rN st b i ≤ 989901 * 100 := Nat.mul_le_mul k14 k6
        unfold tmR
        rw [eA, xget_at (n := 6) (f := bK st b) (by omega) (by decide), k7, xget_at (by omega) (by decide), k10, pk_mul, hun_N (by omega)]
        rfl
      · unfold numS
        rw [if_neg (by decide), if_neg (by decide), if_neg (by decide), if_neg (by decide), if_neg (by decide), if_pos (by decide), xget_at (by omega) (by decide)]
        exact k7
      · unfold numS
        rw [if_neg (by decide), if_neg (by decide), if_neg (by decide), if_neg (by decide), if_neg (by decide), if_neg (by decide), if_neg (by decide), if_neg (by decide), if_neg (by decide), if_pos (by decide), xget_at (by omega) (by decide)]
        exact k8
    · unfold numS
      rw [if_neg (by decide), if_neg (by decide), if_neg (by decide), if_neg (by decide), if_neg (by decide), if_neg (by decide), if_neg (by decide), if_pos (by decide)]
      exact hBb.2.2.2.2.1
    · unfold numS
      rw [if_neg (by decide), if_neg (by decide), if_neg (by decide), if_neg (by decide), if_neg (by decide), if_neg (by decide), if_neg (by decide), if_neg (by decide), if_neg (by decide), if_neg (by decide), if_pos (by decide)]
      exact hs.1
    · unfold numS
      rw [if_neg (by decide), if_neg (by decide), if_neg (by decide), if_neg (by decide), if_neg (by decide), if_neg (by decide), if_neg (by decide), if_neg (by decide), if_neg (by decide), if_neg (by decide), if_neg (by decide), if_pos (by decide)]
      exact ht.1
    · unfold numS
      rw [if_neg (by decide), if_neg (by decide), if_neg (by decide), if_pos (by decide), hs.1, ht.1, nI_add]
/-! ===== make ===== -/
theorem PI0_F {st u : XS} {bd d n mB nn nb nb2 : Nat} {ln : Nat → Nat} (hm : mB ≤ 7) (h : PI0 st bd d n mB nn nb ln) (h1 : ∀ f k, ¬ (f = 3 ∧ k = 100 + 6 * mB) → gi u f k = gi st f k) (h2 : ∀ f k, gp u f k = gp st f k) (h3 : ∀ k, PKa k → ¬ k = 32 → ¬ k = 33 → ¬ (100 + 6 * mB < k ∧ k < 100 + 6 * mB + 4) → ga u k = ga st k) (h4 : ∀ k, gb u k = gb st k) (h32 : ∀ i, i < 7 * mB → ga u 32 i = ga st 32 i) (h33 : ∀ i, i < 9 * mB → ga u 33 i = ga st 33 i) (hd : PD mB nb2 u) : PI0 u bd d n mB nn nb2 ln := by
  obtain ⟨⟨r1, r2, r3⟩, ⟨m1, m2, m3, m4, m5⟩, -, ⟨b1, b2⟩, ⟨n1, n2⟩, ⟨f1, f2, f3, f4, f5⟩⟩ := h
  have q : ∀ k, PKa k → ¬ k = 32 → ¬ k = 33 → k < 100 ∨ 300 ≤ k → ga u k = ga st k := fun k q1 q2 q3 q4 => h3 k q1 q2 q3 (by omega)
  refine ⟨⟨r1, (h1 4 4 (by omega)).trans r2, ?_⟩, ⟨(h1 4 0 (by omega)).trans m1, ?_, ?_, ?_, ?_⟩, hd, ⟨fun i hi => by rw [h4]; exact b1 i hi, fun b hb => ?_⟩, ⟨n1, (h1 3 5 (by omega)).trans n2⟩, ⟨f1, f2, fun i hi => by rw [h4]; exact f3 i hi, (h1 3 _ (by omega)).trans f4, ?_⟩⟩
  · rw [q 31 (by unfold PKa; omega) (by decide) (by decide) (by decide), q 13 (by unfold PKa; omega) (by decide) (by decide) (by decide), q 14 (by unfold PKa; omega) (by decide) (by decide) (by decide), q 15 (by unfold PKa; omega) (by decide) (by decide) (by decide), q 16 (by unfold PKa; omega) (by decide) (by decide) (by decide)]; exact r3
  · rw [q 7 (by unfold PKa; omega) (by decide) (by decide) (by decide)]; exact m2
  · rw [q 7 (by unfold PKa; omega) (by decide) (by decide) (by decide), q 36 (by unfold PKa; omega) (by decide) (by decide) (by decide)]; exact m3
  · rw [q 8 (by unfold PKa; omega) (by decide) (by decide) (by decide)]; exact m4
  · rw [q 8 (by unfold PKa; omega) (by decide) (by decide) (by decide), q 35 (by unfold PKa; omega) (by decide) (by decide) (by decide)]; exact m5
  · have hB := b2 b hb
    have hn3 := hB.2.1
    exact PB_K hB (fun f => h1 f _ (by omega)) (fun j j1 j2 => h3 _ (by unfold PKa; omega) (by omega) (by omega) (by omega)) (fun i hi => h32 _ (by omega)) (fun k hk i hi => h33 _ (by omega))
  · intro j hj
    rw [q 301 (by unfold PKa; omega) (by decide) (by decide) (by decide), q 302 (by unfold PKa; omega) (by decide) (by decide) (by decide), q 303 (by unfold PKa; omega) (by decide) (by decide) (by decide)]; exact f5 j hj
/-- what the law has noted of the invoice that is being made -/
def RW (st : XS) (mB d mn c9 pl w : Nat) : Prop := c9 < 3 ∧ pl < 2 ∧ w < 3 ∧ ga st 8 c9 = nI pl ∧ ga st 7 pl = nI w ∧ ga st 32 (7 * mB) = nI c9 ∧ ga st 32 (7 * mB + 1) = nI d ∧ ga st 32 (7 * mB + 2) = nI mn ∧ ga st 32 (7 * mB + 3) = nI pl ∧ ga st 32 (7 * mB + 4) = nI w
/-- the tax of the invoice that is being made -/
def txM (st : XS) (n mB d mn pl w : Nat) : Int32 := ltx (nI w) (itsF (ga st 33) (ga st 31) mB (fun k => knoS st n (nI pl) (nI (kN st mB k)) (nI d))) (kN st mB) mn
def ln2 (mB mn : Nat) (ln : Nat → Nat) : Nat → Nat := fun b => if b = mB then mn else ln b
set_option maxHeartbeats 2000000 in
theorem PI_make {Ls : List Nat} {st : XS} {bd d n mB nn mn c9 pl w : Nat} {ln : Nat → Nat} (hA : PA Ls mB st) (h : PI0 st bd d n mB nn mn ln) (hmn : 0 < mn) (hm : mB < 7) (hd9 : d ≤ 9999) (hW : RW st mB d mn c9 pl w) (h5 : ga st 32 (7 * mB + 5) = txM st n mB d mn pl w) (h6 : ga st 32 (7 * mB + 6) = txM st n mB d mn pl w) :
    PI ((Ls ++ [50 + mB]) ++ LsB (mB + 1)) (mk7 st n mB mn (nI c9)) bd d n (mB + 1) nn (ln2 mB mn ln) ∧ (∀ k, k < 4 → bT (mk7 st n mB mn (nI c9)) mB k = oI (knoS st n (nI pl) (nI k) (nI d))) ∧ ∀ k, k < 4 → bH (mk7 st n mB mn (nI c9)) mB k = rtO (ga st 31) (knoS st n (nI pl) (nI k) (nI d)) := by
  obtain ⟨hR, hM, hD, hB, hN, hF⟩ := h
  obtain ⟨w1, w2, w3, w4, w5, w6, w7, w8, w9, w10⟩ := hW
  obtain ⟨U, hU⟩ : ∃ U, U = mk7 st n mB mn (nI c9) := ⟨_, rfl⟩
  rw [← hU]
  have hx8 : xget 10 (ga st 8) (nI c9) = nI pl := by rw [xget_at (by omega) (by decide)]; exact w4
  have hx7 : xget 4 (ga st 7) (xget 10 (ga st 8) (nI c9)) = nI w := by rw [hx8, xget_at (by omega) (by decide)]; exact w5
  have yo : ∀ f k, ¬ k = 100 + 6 * (mB + 1) → ¬ k = 100 + 6 * mB → ¬ (f = 10 ∧ k = 0) → gi U f k = gi st f k := fun f k h1 h2 h3 => by
    rw [hU, mk_gi, if_neg h1, if_neg h3, if_neg (fun q => h2 q.2), if_neg (fun q => h2 q.2), if_neg (fun q => h2 q.2), if_neg (fun q => h2 q.2), if_neg (fun q => h2 q.2), if_neg (fun q => h2 q.2)]
  have yN : ∀ f, gi U f (100 + 6 * (mB + 1)) = 0 := fun f => by rw [hU, mk_gi, if_pos rfl]
  have yga : ∀ k, ¬ (100 + 6 * (mB + 1) ≤ k ∧ k < 100 + 6 * (mB + 1) + 6) → ¬ k = 100 + 6 * mB + 4 → ¬ k = 100 + 6 * mB + 5 → ga U k = ga st k := fun k h1 h2 h3 => by
    rw [hU, mk_ga, if_neg h1, mk3_ga h2 h3]
  have yl : ∀ k, k < 100 ∨ 300 ≤ k → ga U k = ga st k := fun k hk => yga k (by omega) (by omega) (by omega)
  have a33 : ga U 33 = ga st 33 := yl 33 (by decide)
  have a32 : ga U 32 = ga st 32 := yl 32 (by decide)
  have hgp : ∀ f k, gp U f k = if f = 8 ∧ k = 0 then some (100 + 6 * (mB + 1)) else gp st f k := fun f k => by rw [hU]; exact mk_gp f k
  have hgb : ∀ k, gb U k = if k = 9 then (fun z => if z = mB then some (100 + 6 * mB) else gb st 9 z) else gb st k := fun k => by rw [hU]; exact mk_gb k
  have hBT : ∀ k, k < 4 → bT U mB k = oI (knoS st n (nI pl) (nI k) (nI d)) := fun k hk => by
    unfold bT; rw [hU, mk_ga, if_neg (by omega), mk3_T hk, hx8, hM.1, knS_o]
  have hBH : ∀ k, k < 4 → bH U mB k = rtO (ga st 31) (knoS st n (nI pl) (nI k) (nI d)) := fun k hk => by
    unfold bH; rw [hU, mk_ga, if_neg (by omega), mk3_R (by omega) hk, hx8, hM.1, knS_o]
    exact rt_eq hR.2.2 (by have := hR.1; omega) (fun j hj => knO_lt _ _ _ _ _ _ _ _ hj)
  refine ⟨⟨?_, ?_, ?_, ?_, ?_, ?_, ?_⟩, hBT, hBH⟩
  · obtain ⟨a1, a2, a3, a4, a5, a6, a7, a8, a9⟩ := hA
    refine ⟨fun k h => List.mem_append_left _ (List.mem_append_left _ (a1 k h)), fun k h1 h2 => List.mem_append_left _ (List.mem_append_left _ (a2 k h1 h2)), fun b h i hi => ?_, fun b h1 h2 k hk hq => ?_, fun j h => List.mem_append_left _ (List.mem_append_left _ (a5 j h)), ?_, fun k h1 h2 hq => ?_, fun i h1 h2 hq => ?_, by omega⟩
    · by_cases e : b ≤ mB
      · exact List.mem_append_left _ (List.mem_append_left _ (a3 b e i hi))
      · rw [show b = mB + 1 by omega]; exact List.mem_append_right _ (LsB_mem hi)
    · obtain ⟨i, h3, h4⟩ := LsB_iff.mp hk
      rcases List.mem_append.mp hq with hq | hq
      · rcases List.mem_append.mp hq with hq | hq
        · exact a4 b (by omega) h2 k hk hq
        · have := List.mem_singleton.mp hq; omega
      · obtain ⟨i2, h5, h6⟩ := LsB_iff.mp hq; omega
    · refine xCl_appG (st := st) (u := U) ?_ (fun f k i _ h => ?_) (fun k i i2 _ h => ?_) (xCl_LsB (by omega))
      · exact xCl_app (n := 4) a6 (by
          have : mB = 0 ∨ mB = 1 ∨ mB = 2 ∨ mB = 3 ∨ mB = 4 ∨ mB = 5 ∨ mB = 6 := by omega
          rcases this with rfl | rfl | rfl | rfl | rfl | rfl | rfl <;> rfl) (fun j _ => x_agrf st j)
      · rw [hgp] at h
        split at h
        · cases h; exact Or.inr (List.mem_append_right _ (LsB_mem (j := 0) (by decide)))
        · exact Or.inl h
      · rw [hgb] at h
        split at h
        · next e =>
          change (if i = mB then some (100 + 6 * mB) else gb st 9 i) = some i2 at h
          split at h
          · cases h; exact Or.inr (List.mem_append_left _ (List.mem_append_left _ (a3 mB (Nat.le_refl _) 0 (by decide))))
          · rw [e]; exact Or.inl h
        · exact Or.inl h
    · rcases List.mem_append.mp hq with hq | hq
      · rcases List.mem_append.mp hq with hq | hq
        · exact a7 k h1 h2 hq
        · have := List.mem_singleton.mp hq; omega
      · obtain ⟨i2, h5, h6⟩ := LsB_iff.mp hq; omega
    · rcases List.mem_append.mp hq with hq | hq
      · rcases List.mem_append.mp hq with hq | hq
        · exact a8 i (by omega) h2 hq
        · have := List.mem_singleton.mp hq; omega
      · obtain ⟨i2, h5, h6⟩ := LsB_iff.mp hq; omega
  · refine ⟨hR.1, (yo 4 4 (by omega) (by omega) (by omega)).trans hR.2.1, ?_⟩
    rw [yl 31 (by decide), yl 13 (by decide), yl 14 (by decide), yl 15 (by decide), yl 16 (by decide)]; exact hR.2.2
  · refine ⟨(yo 4 0 (by omega) (by omega) (by omega)).trans hM.1, ?_⟩
    rw [yl 7 (by decide), yl 8 (by decide), yl 35 (by decide), yl 36 (by decide)]; exact hM.2
  · exact ⟨by decide, by rw [hgp, if_pos ⟨rfl, rfl⟩], by rw [hU, mk_gi, if_neg (by omega), if_pos ⟨rfl, rfl⟩], yN 3, yN 12, fun k hk => absurd hk (by omega)⟩
  · refine ⟨fun i hi => ?_, fun b hb => ?_⟩
    · rw [hgb, if_pos rfl]
      by_cases e : i = mB
      · subst e; rw [if_pos (Nat.lt_succ_self _)]; exact if_pos rfl
      · refine (if_neg e).trans ((hB.1 i hi).trans ?_)
        by_cases e2 : i < mB
        · rw [if_pos e2, if_pos (by omega)]
        · rw [if_neg e2, if_neg (by omega)]
    · by_cases e : b = mB
      · subst e
        rw [show ln2 b mn ln b = mn from if_pos rfl]
        have hkk : ∀ k, k < mn → kN st b k < 3 ∧ bK st b k = nI (kN st b k) ∧ bQ st b k = ga st 33 (9 * b + 3 * k + 1) ∧ bP st b k = ga st 33 (9 * b + 3 * k + 2) := fun k hk => by
          have q := kN_of (hD.2.2.2.2.2 k hk); exact ⟨q.1, q.2.2.1, q.2.2.2.1, q.2.2.2.2⟩
        have hRk : ∀ kk, kk < 4 → ga (mk3 st n b (nI c9)) (100 + 6 * b + 5) kk = rtO (ga st 31) (knoS st n (nI pl) (nI kk) (nI d)) := fun kk hk => by
          rw [mk3_R (by omega) hk, hx8, hM.1, knS_o]
          exact rt_eq hR.2.2 (by have := hR.1; omega) (fun j hj => knO_lt _ _ _ _ _ _ _ _ hj)
        have eK : bK (mk3 st n b (nI c9)) b = bK st b := mk3_ga (by omega) (by omega)
        have eQ : bQ (mk3 st n b (nI c9)) b = bQ st b := mk3_ga (by omega) (by omega)
        have eP : bP (mk3 st n b (nI c9)) b = bP st b := mk3_ga (by omega) (by omega)
        have g11 : gi U 11 (100 + 6 * b) = txB (nI w) (bK st b) (bQ st b) (bP st b) (ga (mk3 st n b (nI c9)) (100 + 6 * b + 5)) mn := by
          rw [hU, mk_gi, if_neg (by omega), if_neg (by omega), if_pos ⟨rfl, rfl⟩, mk3_8, hx7, eK, eQ, eP]
        have gT : gi U 11 (100 + 6 * b) = txM st n b d mn pl w := by
          rw [g11]
          refine tx_f ⟨by have := hD.1; omega, fun k hk => ?_⟩ w3
          obtain ⟨k1, k2, k3, k4⟩ := hkk k hk
          refine ⟨by omega, k2, ?_⟩
          unfold itsF
          rw [k3, k4, hRk _ (by omega)]
        have hTm : TmN (bK st b) (bQ st b) (bP st b) (ga (mk3 st n b (nI c9)) (100 + 6 * b + 5)) mn := TmN_of (by have := hD.1; omega) (fun k hk => by
          obtain ⟨kk, q, p, q1, q2, q3, q4, q5, q6, q7, q8, q9, q10, q11⟩ := hD.2.2.2.2.2 k hk
          obtain ⟨r, r1, r2⟩ := rt_N hR.2.2 (o := knoS st n (nI pl) (nI kk) (nI d)) (fun j hj => knO_lt _ _ _ _ _ _ _ _ hj)
          exact ⟨kk, q, p, r, by omega, q3, q5, r1, q6, q8, q10, (hRk kk (by omega)).trans r2⟩)
        obtain ⟨x, hx1, hx2⟩ := txB_N hTm (nI w)
        have hn3 := hD.1
        have g0 : ∀ f, ¬ f = 4 → ¬ f = 5 → ¬ f = 6 → ¬ f = 7 → ¬ f = 8 → ¬ f = 11 → gi U f (100 + 6 * b) = gi st f (100 + 6 * b) := fun f q4 q5 q6 q7 q8 q11 => by
          rw [hU, mk_gi, if_neg (by omega), if_neg (by omega), if_neg (by omega), if_neg (by omega), if_neg (by omega), if_neg (by omega), if_neg (by omega), if_neg (by omega)]
        refine ⟨hmn, hn3, (g0 3 (by decide) (by decide) (by decide) (by decide) (by decide) (by decide)).trans hD.2.2.2.1, by rw [a32]; exact w8, ?_, ⟨c9, w1, ?_, by rw [a32]; exact w6⟩, ⟨d, hd9, ?_, by rw [a32]; exact w7⟩, ⟨pl, w2, ?_, by rw [a32]; exact w9⟩, ⟨w, w3, ?_, by rw [a32]; exact w10⟩, ⟨x, hx1, g11.trans hx2, by rw [a32, h5, ← gT]; exact g11.trans hx2⟩, ?_, fun k hk => ?_, fun k hk => PL_K (hD.2.2.2.2.2 k hk) (fun j j1 j2 => yga _ (by omega) (by omega) (by omega)) (fun i _ => by rw [a33])⟩
        · rw [hU, mk_gi, if_neg (by omega), if_neg (by omega), if_neg (by omega), if_neg (by omega), if_neg (by omega), if_neg (by omega), if_neg (by omega), if_pos ⟨rfl, rfl⟩]
        · rw [hU, mk_gi, if_neg (by omega), if_neg (by omega), if_neg (by omega), if_neg (by omega), if_neg (by omega), if_neg (by omega), if_pos ⟨rfl, rfl⟩]
        · rw [hU, mk_gi, if_neg (by omega), if_neg (by omega), if_neg (by omega), if_neg (by omega), if_neg (by omega), if_pos ⟨rfl, rfl⟩]; exact hM.1
        · rw [hU, mk_gi, if_neg (by omega), if_neg (by omega), if_neg (by omega), if_neg (by omega), if_pos ⟨rfl, rfl⟩]; exact hx8
        · rw [hU, mk_gi, if_neg (by omega), if_neg (by omega), if_neg (by omega), if_pos ⟨rfl, rfl⟩]; exact hx7
        · rw [a32, h6, gT, g0 12 (by decide) (by decide) (by decide) (by decide) (by decide) (by decide), hD.2.2.2.2.1, i_add0]
        · obtain ⟨r, r1, r2⟩ := rt_N hR.2.2 (o := knoS st n (nI pl) (nI k) (nI d)) (fun j hj => knO_lt _ _ _ _ _ _ _ _ hj)
          exact ⟨r, r1, (hBH k hk).trans r2⟩
      · have hb9 : b < mB := by omega
        rw [show ln2 mB mn ln b = ln b from if_neg e]
        exact PB_K (hB.2 b hb9) (fun f => yo f _ (by omega) (by omega) (by omega)) (fun j j1 j2 => yga _ (by omega) (by omega) (by omega)) (fun i _ => by rw [a32]) (fun k _ i _ => by rw [a33])
  · exact ⟨hN.1, (yo 3 5 (by omega) (by omega) (by omega)).trans hN.2⟩
  · obtain ⟨f1, f2, f3, f4, f5⟩ := hF
    refine ⟨f1, f2, fun i hi => by rw [hgb, if_neg (by decide)]; exact f3 i hi, (yo 3 _ (by omega) (by omega) (by omega)).trans f4, ?_⟩
    intro j hj
    rw [yl 301 (by decide), yl 302 (by decide), yl 303 (by decide)]; exact f5 j hj
