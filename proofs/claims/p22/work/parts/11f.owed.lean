/-! ===== what a turn ends with: what is owed ===== -/
/-- an invoice's place -/
def plN (st : XS) (b : Nat) : Nat := (ga st 32 (7 * b + 3)).toNatClampNeg
theorem plN_of {st : XS} {b n : Nat} (h : PB st b n) : ga st 32 (7 * b + 3) = nI (plN st b) ∧ plN st b < 2 ∧ gi st 7 (100 + 6 * b) = nI (plN st b) := by
  obtain ⟨p, h1, h2, h3⟩ := h.2.2.2.2.2.2.2.1
  have e : plN st b = p := by unfold plN; rw [h3, nI_clamp (by omega)]
  rw [e]; exact ⟨h3, h1, h2⟩
/-- the law's row of what is owed, behind i invoices -/
def lOw (st : XS) : Nat → (Nat → Int32)
  | 0 => fun _ => 0
  | i + 1 => upd (lOw st i) (plN st i) (lOw st i (plN st i) + ga st 32 (7 * i + 6))
theorem owF_l {st : XS} {mB : Nat} {ln : Nat → Nat} (hb : PBs mB ln st) (hm : mB ≤ 7) {k : Nat} (hk : k < 4) : ∀ i, i ≤ mB → owF st mB (nI k) i = lOw st i k := by
  intro i
  induction i with
  | zero => intro _; rfl
  | succ i ih =>
    intro hi
    have hB := hb.2 i (by omega)
    obtain ⟨p1, p2, p3⟩ := plN_of hB
    rw [owF, lOw, ih (by omega), p3]
    by_cases e : plN st i = k
    · rw [if_pos ⟨by omega, by rw [e]⟩, e, pk_us, hB.2.2.2.2.2.2.2.2.2.2.1]
    · rw [if_neg (fun q => e ((nI_eq (by omega) (by omega)).mp q.2)), pk_un (Ne.symm e)]
theorem owF_30 {st : XS} {mB : Nat} {k : Int32} : ∀ i, owF st mB k (mB + i) = owF st mB k mB := by
  intro i
  induction i with
  | zero => rfl
  | succ i ih => rw [← Nat.add_assoc, owF, if_neg (by omega), ih]
theorem owF_e {st : XS} {mB : Nat} {ln : Nat → Nat} (hb : PBs mB ln st) (hm : mB ≤ 7) {k : Nat} (hk : k < 4) : owF st mB (nI k) 30 = lOw st mB k := by
  rw [← owF_l hb hm hk mB (Nat.le_refl _), ← owF_30 (30 - mB), show mB + (30 - mB) = 30 by omega]
section
variable (st : XS) (b n : Nat)
theorem inv0 : invS st b n (nI 0) = gi st 5 (100 + 6 * b) := by unfold invS; rw [if_pos rfl]
theorem inv1 : invS st b n (nI 1) = gi st 6 (100 + 6 * b) := by unfold invS; rw [if_neg (by decide), if_pos rfl]
theorem inv2 : invS st b n (nI 2) = nI n := by unfold invS; rw [if_neg (by decide), if_neg (by decide), if_pos rfl]
theorem inv3 : invS st b n (nI 3) = sumA (bQ st b) (bP st b) n := by unfold invS; rw [if_neg (by decide), if_neg (by decide), if_neg (by decide), if_pos rfl]
theorem inv4 : invS st b n (nI 4) = gi st 11 (100 + 6 * b) := by unfold invS; rw [if_neg (by decide), if_neg (by decide), if_neg (by decide), if_neg (by decide), if_pos rfl]
theorem inv5 : invS st b n (nI 5) = gi st 11 (100 + 6 * b) + gi st 12 (100 + 6 * b) := by unfold invS; rw [if_neg (by decide), if_neg (by decide), if_neg (by decide), if_neg (by decide), if_neg (by decide), if_pos rfl]
theorem inv6 : invS st b n (nI 6) = gi st 7 (100 + 6 * b) := by unfold invS; rw [if_neg (by decide), if_neg (by decide), if_neg (by decide), if_neg (by decide), if_neg (by decide), if_neg (by decide), if_pos rfl]
theorem inv7 : invS st b n (nI 7) = gi st 8 (100 + 6 * b) := by unfold invS; rw [if_neg (by decide), if_neg (by decide), if_neg (by decide), if_neg (by decide), if_neg (by decide), if_neg (by decide), if_neg (by decide)]
end
/-- what the class's calls that only read want of a state, at the labels Ls -/
def RD (Ls : List Nat) (mB : Nat) (ln : Nat → Nat) (st : XS) : Prop := (∀ k, xC k = true → k ∈ Ls) ∧ mB ≤ 30 ∧ (∀ i, i < 30 → gb st 9 i = if i < mB then some (100 + 6 * i) else none) ∧ (∀ b, b ≤ mB → ∀ j, j < 6 → 100 + 6 * b + j ∈ Ls) ∧ ∀ b, b ≤ mB → ln b ≤ 6 ∧ gi st 3 (100 + 6 * b) = nI (ln b)
theorem RD_of {Ls : List Nat} {mB nb : Nat} {ln : Nat → Nat} {st : XS} (ha : PA Ls mB st) (hd : PD mB nb st) (hb : PBs mB ln st) : RD Ls mB (lnX mB nb ln) st := ⟨ha.1, by have := ha.2.2.2.2.2.2.2.2; omega, hb.1, ha.2.2.1, hln_of hd hb⟩
theorem RD_app {Ls N : List Nat} {mB : Nat} {ln : Nat → Nat} {st : XS} (h : RD Ls mB ln st) : RD (Ls ++ N) mB ln st := ⟨fun k hk => List.mem_append_left _ (h.1 k hk), h.2.1, h.2.2.1, fun b hb j hj => List.mem_append_left _ (h.2.2.2.1 b hb j hj), h.2.2.2.2⟩
theorem RD_K {Ls : List Nat} {mB : Nat} {ln : Nat → Nat} {st u : XS} (h : RD Ls mB ln st) (h1 : ∀ b, b ≤ mB → gi u 3 (100 + 6 * b) = gi st 3 (100 + 6 * b)) (h2 : gb u 9 = gb st 9) : RD Ls mB ln u := ⟨h.1, h.2.1, fun i hi => by rw [h2]; exact h.2.2.1 i hi, h.2.2.2.1, fun b hb => ⟨(h.2.2.2.2 b hb).1, (h1 b hb).trans (h.2.2.2.2 b hb).2⟩⟩
section
variable (l : Launch) (hl0 : l.stackTraces = false) (D : va_G) (cy : Nat → ClassId) (ad : Nat → Nat) {Ls : List Nat} {st : XS} {mB : Nat} {ln : Nat → Nat}
theorem r_invoice (hl0 : l.stackTraces = false) (h : RD Ls mB ln st) (x w : Int32) : xXi l yX7_invoice cX7_invoice 4 (some .int) 8 4 24 D cy ad Ls st [.ref (ad 0), .int x, .int w] (fun E => exK (kInv mB x w) [eIOB, eIAE] E) (fun r u => kInv mB x w = 0 ∧ ∃ b : Nat, b < mB ∧ x = nI b ∧ r = invS st b (ln b) w ∧ u = st) :=
  c_X7_invoice l hl0 D cy ad Ls st h.1 mB h.2.1 h.2.2.1 h.2.2.2.1 ln h.2.2.2.2 x w
theorem r_owed (hl0 : l.stackTraces = false) (h : RD Ls mB ln st) (p : Int32) : xXi l yX7_owed cX7_owed 5 (some .int) 9 4 24 D cy ad Ls st [.ref (ad 0), .int p] (fun E => exK (kPlace p) [eIOB] E) (fun r u => kPlace p = 0 ∧ r = owF st mB p 30 ∧ u = st) :=
  c_X7_owed l hl0 D cy ad Ls st h.1 mB h.2.1 h.2.2.1 h.2.2.2.1 ln h.2.2.2.2 p
theorem r_used (hl0 : l.stackTraces = false) (h : RD Ls mB ln st) (x y : Int32) : xXi l yX7_used cX7_used 4 (some .int) 8 4 24 D cy ad Ls st [.ref (ad 0), .int x, .int y] (fun E => exK (kUsed mB ln x y) [eIOB] E) (fun r u => kUsed mB ln x y = 0 ∧ ∃ b : Nat, b < mB ∧ x = nI b ∧ r = xget 4 (ga st (100 + 6 * b + 4)) (xget 6 (ga st (100 + 6 * b + 1)) y) ∧ u = st) :=
  c_X7_used l hl0 D cy ad Ls st h.1 mB h.2.1 h.2.2.1 h.2.2.2.1 ln h.2.2.2.2 x y
end
theorem inv_post {mB b : Nat} {st u : XS} {ln : Nat → Nat} {r w : Int32} {k : Prop} (hm : mB ≤ 30) (hb : b < mB) (hp : k ∧ ∃ b1 : Nat, b1 < mB ∧ nI b = nI b1 ∧ r = invS st b1 (ln b1) w ∧ u = st) : r = invS st b (ln b) w ∧ u = st := by
  obtain ⟨-, b1, h1, h2, h3⟩ := hp
  have e := (nI_eq (by omega) (by omega)).mp h2
  subst e
  exact h3
