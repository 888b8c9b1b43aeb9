/-! ===== the page, ahead of the turns ===== -/
def PG (st : XS) (P : List Nat) : Prop := gi st 1 2 = nI P.length ∧ ∀ j, j < P.length → ga st 11 j = nI (P.getD j 0)
theorem apF_at (f : Nat → Int32) (m n : Nat) : ∀ j, m + j ≤ 160 → ∀ k, apF f m n j k = if m ≤ k ∧ k < m + j then nI (n / 256 ^ (k - m) % 256) else f k := by
  intro j
  induction j with
  | zero => intro _ k; rw [if_neg (by omega)]; rfl
  | succ j ih =>
    intro h k
    show xset 160 (apF f m n j) (nI (m + j)) (nI (n / 256 ^ j % 256)) k = _
    rw [xset_nI (by omega) (by decide)]
    by_cases e : k = m + j
    · subst e; rw [pk_us, if_pos (by omega), Nat.add_sub_cancel_left]
    · rw [pk_un e, ih (by omega)]
      by_cases q : m ≤ k ∧ k < m + j
      · rw [if_pos q, if_pos (by omega)]
      · rw [if_neg q, if_neg (by omega)]
theorem PG_ty {st : XS} {P Q : List Nat} (n : Nat) (h : PG st P) (hQ : ∀ i, i < Q.length → n / 256 ^ i % 256 = Q.getD i 0) (hl : P.length + Q.length ≤ 160) : PG (tyS st P.length n Q.length) (P ++ Q) := by
  unfold tyS
  refine ⟨by rw [List.length_append]; exact (gi_si ..).trans (if_pos ⟨rfl, rfl⟩), fun j hj => ?_⟩
  rw [List.length_append] at hj
  rw [ga_si, ga_self, apF_at _ _ _ _ hl]
  by_cases q : P.length ≤ j
  · rw [if_pos ⟨q, hj⟩, hQ _ (by omega), List.getD_eq_getElem?_getD, List.getD_eq_getElem?_getD, List.getElem?_append_right q]
  · rw [if_neg (by omega), h.2 j (by omega), List.getD_eq_getElem?_getD, List.getD_eq_getElem?_getD, List.getElem?_append_left (by omega)]
theorem getD_lt (P : List Nat) (h8 : ∀ x ∈ P, x < 256) {j : Nat} (hj : j < P.length) : P.getD j 0 < 256 := by
  rw [List.getD_eq_getElem?_getD, List.getElem?_eq_getElem hj]
  exact h8 _ (List.getElem_mem hj)
theorem PG_sg {st : XS} {P : List Nat} (h : PG st P) (hl : P.length ≤ 160) (h8 : ∀ x ∈ P, x < 256) {j : Nat} (hj : j ≤ P.length) : sgF (ga st 11) P.length (nI j) = nI (P.getD j 0) := by
  unfold sgF
  by_cases q : j < P.length
  · have h9 := getD_lt P h8 q
    rw [if_neg (fun z => absurd ((nI_leI (by omega) (by omega)).mp z) (by omega)), xget_nI (by omega) (by decide), h.2 j q]
    exact nI_chr (by omega)
  · rw [if_pos ((nI_leI (by omega) (by omega)).mpr (by omega)), List.getD_eq_getElem?_getD, List.getElem?_eq_none (by omega)]
    rfl
theorem csN_3 {a b c : Nat} (ha : a ≤ 9) (hb : b ≤ 9) (hc : c ≤ 9) : csN 8 (48 + a + (48 + b) * 256 + (48 + c) * 65536) 0 = some 3 := by
  rw [csN, if_neg (by omega), if_neg (by omega), show (48 + a + (48 + b) * 256 + (48 + c) * 65536) / 256 = 48 + b + (48 + c) * 256 by omega, csN, if_neg (by omega), if_neg (by omega), show (48 + b + (48 + c) * 256) / 256 = 48 + c by omega, csN, if_neg (by omega), if_neg (by omega), show (48 + c) / 256 = 0 by omega, csN, if_pos rfl, if_pos rfl]
theorem by_3 {a b c : Nat} (ha : a ≤ 9) (hb : b ≤ 9) (hc : c ≤ 9) : ∀ i, i < [48 + a, 48 + b, 48 + c].length → (48 + a + (48 + b) * 256 + (48 + c) * 65536) / 256 ^ i % 256 = [48 + a, 48 + b, 48 + c].getD i 0 := by
  intro i hi
  have hi : i < 3 := hi
  rcases (show i = 0 ∨ i = 1 ∨ i = 2 by omega) with rfl | rfl | rfl
  · rw [Nat.pow_zero, Nat.div_one]; show _ = 48 + a; omega
  · rw [show (256 : Nat) ^ 1 = 256 from rfl]; show _ = 48 + b; omega
  · rw [show (256 : Nat) ^ 2 = 65536 from rfl]; show _ = 48 + c; omega
/-- ahead of the turns -/
def SQ (st : XS) : Prop := gp st 1 1 = some 300 ∧ gp st 8 0 = some 100 ∧ gi st 3 0 = nI 0 ∧ gi st 4 4 = nI 0 ∧ gi st 4 0 = nI 0 ∧ gi st 10 0 = nI 0 ∧ gi st 3 100 = nI 0 ∧ gi st 12 100 = nI 0 ∧ gi st 3 5 = nI 0 ∧ (∀ k i, gb st k i = none) ∧ (∀ i, ga st 7 i = nI 0) ∧ (∀ i, ga st 8 i = nI 0) ∧ xCl st Ls0
theorem SQ_K {st u : XS} (h : SQ st) (h1 : ∀ f k, (f = 3 ∧ (k = 0 ∨ k = 5 ∨ k = 100)) ∨ (f = 4 ∧ (k = 0 ∨ k = 4)) ∨ (f = 10 ∧ k = 0) ∨ (f = 12 ∧ k = 100) → gi u f k = gi st f k) (h2 : ∀ f k, gp u f k = gp st f k) (h3 : ga u 7 = ga st 7) (h4 : ga u 8 = ga st 8) (h5 : ∀ k, gb u k = gb st k) : SQ u := by
  obtain ⟨a1, a2, a3, a4, a5, a6, a7, a8, a9, b1, b2, b3, b4⟩ := h
  exact ⟨(h2 ..).trans a1, (h2 ..).trans a2, (h1 3 0 (by decide)).trans a3, (h1 4 4 (by decide)).trans a4, (h1 4 0 (by decide)).trans a5, (h1 10 0 (by decide)).trans a6, (h1 3 100 (by decide)).trans a7, (h1 12 100 (by decide)).trans a8, (h1 3 5 (by decide)).trans a9, fun k i => by rw [h5]; exact b1 k i, fun i => by rw [h3]; exact b2 i, fun i => by rw [h4]; exact b3 i, xCl_up b4 h2 (fun k i => Or.inl (by rw [h5]))⟩
theorem SQ_ty {st : XS} (h : SQ st) (np n j : Nat) : SQ (tyS st np n j) := by
  refine SQ_K h (fun f k q => ?_) (fun _ _ => rfl) ?_ ?_ (fun _ => rfl)
  · unfold tyS; rw [gi_si, if_neg (by omega)]; rfl
  · unfold tyS; rw [ga_si, ga_sa, if_neg (by decide)]
  · unfold tyS; rw [ga_si, ga_sa, if_neg (by decide)]
theorem rdU_gi (st : XS) (x : RS) (f k : Nat) (h : ¬ (f = 1 ∧ k = 2)) (h2 : ¬ (f = 2 ∧ k = 1)) (h3 : ¬ (f = 3 ∧ k = 1)) (h4 : ¬ (f = 3 ∧ k = 300 + 4 * 0)) : gi (si (rdS st 0 x) 1 2 (nI 0)) f k = gi st f k := by
  unfold rdS
  rw [gi_si, if_neg h, gi_si, if_neg h2, gi_si, if_neg h3, gi_sa, gi_sa, gi_sa, gi_si, if_neg h4]
theorem rdU_ga (st : XS) (x : RS) (k : Nat) (h : ¬ (301 ≤ k ∧ k ≤ 303)) : ga (si (rdS st 0 x) 1 2 (nI 0)) k = ga st k := by
  unfold rdS
  rw [ga_si, ga_si, ga_si, ga_sa, if_neg (by omega), ga_sa, if_neg (by omega), ga_sa, if_neg (by omega), ga_si]
theorem SQ_rd {st : XS} (h : SQ st) (np n5 : Nat) : SQ (rdU st 0 np n5) := by
  unfold rdU
  generalize (rdR st 0 np n5).2 = x
  refine SQ_K h (fun f k q => ?_) (fun _ _ => rfl) ?_ ?_ (fun _ => rfl)
  · exact rdU_gi st x f k (by omega) (by omega) (by omega) (by omega)
  · exact rdU_ga st x 7 (by omega)
  · exact rdU_ga st x 8 (by omega)
theorem PG_rd (st : XS) (np n5 : Nat) : PG (rdU st 0 np n5) [] := by
  unfold rdU
  exact ⟨(gi_si ..).trans (if_pos ⟨rfl, rfl⟩), fun j hj => absurd hj (Nat.not_lt_zero _)⟩
def pgF : List Nat := [123, 110, 125, 58, 123, 42, 105, 125]
theorem rd1 {st : XS} (hP : PG st pgF) {n5 : Nat} (h5 : n5 = 5) : rpA 8 (rdR st 0 8 n5) = -8 := by
  obtain ⟨k, rfl⟩ : ∃ k, n5 = k + 1 + 1 := ⟨3, h5⟩
  unfold rdR
  have e := rdFail (ga st (300 + 4 * 0 + 1)) (ga st (300 + 4 * 0 + 2)) (ga st (300 + 4 * 0 + 3)) (T := ga st 11) (fun j hj => PG_sg hP (by decide) (by decide) (show j ≤ 8 by omega)) k
  have e2 : rParts (ga st 11) 8 (k + 1 + 1) false false (nI 0, nI 0, nI 0, ga st (300 + 4 * 0 + 1), ga st (300 + 4 * 0 + 2), ga st (300 + 4 * 0 + 3)) = _ := e
  rw [e2]
  exact (if_neg (fun q => by cases q.1)).trans (show (-1 : Int32) - nI 7 = -8 by decide)
theorem pgL_8 {bd : Nat} (hb : bd < 1000) : ∀ x ∈ pgL bd, x < 256 := by
  intro x hx
  unfold pgL at hx
  simp only [List.mem_cons, List.not_mem_nil, or_false] at hx
  omega
theorem rd2 {st : XS} {bd : Nat} (hb : 100 ≤ bd) (hb9 : bd < 1000) (hP : PG st (pgL bd)) {n5 : Nat} (h5 : n5 = 5) : rdR st 0 46 n5 = (true, nI 46, nI 8, nI 23, rowL (ga st 301) fD, rowL (ga st 302) fF, rowL (ga st 303) (fS bd)) := by
  obtain ⟨k, rfl⟩ : ∃ k, n5 = k + 1 + 1 + 1 := ⟨2, h5⟩
  unfold rdR
  exact rdAll2 (ga st 301) (ga st 302) (ga st 303) (fun j hj => PG_sg hP (show 46 ≤ 160 by decide) (pgL_8 hb9) hj) hb hb9 k
theorem rd2r {x : Bool × RS} {A B E : Nat → Int32} (h : x = (true, nI 46, nI 8, nI 23, A, B, E)) : rpA 46 x = nI 8 := by
  rw [h]; exact if_pos ⟨rfl, rfl⟩
/-! ===== the start's labels ===== -/
theorem LsF_iff {f k : Nat} : k ∈ LsF f ↔ ∃ j, j < 4 ∧ k = 300 + 4 * f + j := by
  constructor
  · intro h
    unfold LsF at h
    simp only [List.mem_cons, List.not_mem_nil, or_false] at h
    rcases h with h | h | h | h
    · exact ⟨0, by decide, h⟩
    · exact ⟨1, by decide, h⟩
    · exact ⟨2, by decide, h⟩
    · exact ⟨3, by decide, h⟩
  · rintro ⟨j, h1, h2⟩; rw [h2]; exact LsF_mem h1
theorem xCl_LsF {u : XS} {Ls : List Nat} {g : Nat} (hg : g < 40) : ∀ k ∈ LsF g, (kd k < 9 → ∀ f, f < nfl (kd k) → (10 ≤ fcd (kd k) f → k + (fcd (kd k) f - 10) ∈ Ls ++ LsF g) ∧ (fcd (kd k) f = 2 → ∀ j, gp u f k = some j → j ∈ Ls ++ LsF g)) ∧ ((kd k = 22 ∨ kd k = 23) → ∀ i j, gb u k i = some j → j ∈ Ls ++ LsF g) := by
  intro k hk
  obtain ⟨j, hj, rfl⟩ := LsF_iff.mp hk
  rcases (show j = 0 ∨ j = 1 ∨ j = 2 ∨ j = 3 by omega) with rfl | rfl | rfl | rfl
  · rw [Nat.add_zero, kd_f0 hg]
    refine ⟨fun _ f hf => ⟨fun h => ?_, fun h => ?_⟩, fun h => by rcases h with h | h <;> cases h⟩
    · refine List.mem_append_right _ (LsF_mem ?_)
      rcases (show f = 0 ∨ f = 1 ∨ f = 2 ∨ f = 3 by have h9 : f < 4 := hf; omega) with rfl | rfl | rfl | rfl <;> decide
    · exfalso
      rcases (show f = 0 ∨ f = 1 ∨ f = 2 ∨ f = 3 by have h9 : f < 4 := hf; omega) with rfl | rfl | rfl | rfl <;> revert h <;> decide
  all_goals first | rw [kd_f1 hg] | rw [kd_f2 hg] | rw [kd_f3 hg]
  all_goals exact ⟨fun h => absurd h (by decide), fun h => absurd h (by decide)⟩
set_option maxRecDepth 100000 in
theorem Ls0_b : ∀ j, j < 6 → 100 + j ∈ Ls0 := by decide +kernel
set_option maxRecDepth 100000 in
theorem Ls0_f : ∀ j, j < 4 → 300 + j ∈ Ls0 := by decide +kernel
set_option maxRecDepth 100000 in
theorem Ls0_lo : ∀ k, k < 20 → k ∈ Ls0 := by decide +kernel
set_option maxRecDepth 100000 in
theorem Ls0_c : ∀ k ∈ Ls0, kd k < 9 → ∀ f, f < nfl (kd k) → 10 ≤ fcd (kd k) f → k + (fcd (kd k) f - 10) ∈ Ls0 := by decide +kernel
theorem SQ0 : SQ st0 := by
  refine ⟨rfl, rfl, rfl, rfl, rfl, rfl, rfl, rfl, rfl, fun _ _ => rfl, fun _ => rfl, fun _ => rfl, fun k hk => ⟨fun h1 f hf => ⟨Ls0_c k hk h1 f hf, fun _ j hj => ?_⟩, fun _ i j hj => by cases hj⟩⟩
  change (if f = 8 ∧ k = 0 then some 100 else if f = 1 ∧ k = 1 then some 300 else none) = some j at hj
  split at hj
  · cases hj; exact Ls0_b 0 (by decide)
  · split at hj
    · cases hj; exact Ls0_f 0 (by decide)
    · cases hj
theorem PG0 : PG st0 [] := ⟨rfl, fun j hj => absurd hj (Nat.not_lt_zero _)⟩
def Ls9 : List Nat := Ls0 ++ LsF 1 ++ [31] ++ [32] ++ [33] ++ [34] ++ [35] ++ [36]
set_option maxRecDepth 100000 in
theorem Ls9_a : (∀ k, k < 20 → k ∈ Ls9) ∧ (∀ k, k < 37 → 31 ≤ k → k ∈ Ls9) ∧ (∀ j, j < 6 → 100 + j ∈ Ls9) ∧ (∀ j, j < 4 → 300 + j ∈ Ls9) := by decide +kernel
set_option maxRecDepth 100000 in
theorem Ls9_r : ∀ k ∈ Ls9, k < 37 ∨ (100 ≤ k ∧ k < 106) ∨ 300 ≤ k := by decide +kernel
/-- the second template's form is told -/
def uT (v : XS) : XS := si (sb (sp (stF0 v 1) 1 1 (some (300 + 4 * 1))) 6 (fun z => if z = 0 then some (300 + 4 * 0) else gb (sp (stF0 v 1) 1 1 (some (300 + 4 * 1))) 6 z)) 3 0 (nI (0 + 1))
def uR (v : XS) : XS := sa (sa (sa (sa (sa (sa v 31 (fun _ => 0)) 32 (fun _ => 0)) 33 (fun _ => 0)) 34 (fun _ => 0)) 35 (fun _ => 0)) 36 (fun _ => 0)
theorem uT_Cl {v : XS} (h : xCl v Ls0) : xCl (uT v) (Ls0 ++ LsF 1) := by
  refine xCl_appG (u := uT v) h (fun f k j hk hj => ?_) (fun k i j hk hj => ?_) (xCl_LsF (by decide))
  · change (if f = 1 ∧ k = 1 then some (300 + 4 * 1) else gp v f k) = some j at hj
    split at hj
    · cases hj; exact Or.inr (List.mem_append_right _ (LsF_mem (j := 0) (by decide)))
    · exact Or.inl hj
  · change (if k = 6 then (fun z => if z = 0 then some (300 + 4 * 0) else gb v 6 z) else gb v k) i = some j at hj
    by_cases e : k = 6
    · rw [if_pos e] at hj
      by_cases e2 : i = 0
      · rw [if_pos e2] at hj; cases hj
        exact Or.inr (List.mem_append_left _ (Ls0_f 0 (by decide)))
      · rw [if_neg e2] at hj; rw [e]; exact Or.inl hj
    · rw [if_neg e] at hj; exact Or.inl hj
theorem uR_z (v : XS) (k i : Nat) (h : 31 ≤ k) (h2 : k < 37) : ga (uR v) k i = 0 := by
  unfold uR
  rcases (show k = 31 ∨ k = 32 ∨ k = 33 ∨ k = 34 ∨ k = 35 ∨ k = 36 by omega) with rfl | rfl | rfl | rfl | rfl | rfl <;> rfl
theorem uR_o (v : XS) (k : Nat) (h : ¬ (31 ≤ k ∧ k < 37)) : ga (uR v) k = ga v k := by
  unfold uR
  rw [ga_sa, if_neg (by omega), ga_sa, if_neg (by omega), ga_sa, if_neg (by omega), ga_sa, if_neg (by omega), ga_sa, if_neg (by omega), ga_sa, if_neg (by omega)]
theorem uT_a (v : XS) (k : Nat) (h : k < 304) : ga (uT v) k = ga v k := by
  show (if 300 + 4 * 1 ≤ k ∧ k < 300 + 4 * 1 + 4 then (fun _ => 0) else ga v k) = _
  rw [if_neg (by omega)]
theorem uT_i (v : XS) (f k : Nat) (h : ¬ (f = 3 ∧ k = 0)) (h2 : ¬ k = 304) : gi (uT v) f k = gi v f k := by
  show (if f = 3 ∧ k = 0 then nI (0 + 1) else if k = 300 + 4 * 1 then 0 else gi v f k) = _
  rw [if_neg h, if_neg (by omega)]
theorem PI_first {st : XS} {bd n5 : Nat} (hb : 100 ≤ bd) (hb9 : bd < 1000) (hS : SQ st) (hP : PG st (pgL bd)) (h5 : n5 = 5) (hcl : xCl (uR (uT (rdU st 0 46 n5))) Ls9) : PI Ls9 (uR (uT (rdU st 0 46 n5))) bd 0 0 0 0 (fun _ => 0) := by
  have hR := SQ_rd hS 46 n5
  obtain ⟨v, ev⟩ : ∃ v, v = rdU st 0 46 n5 := ⟨_, rfl⟩
  have g23 : gi v 3 (300 + 4 * 0) = nI 23 := by
    rw [ev]; unfold rdU; rw [rd2 hb hb9 hP h5]; unfold rdS
    rw [gi_si, if_neg (by decide), gi_si, if_neg (by decide), gi_si, if_neg (by decide), gi_sa, gi_sa, gi_sa, gi_si, if_pos ⟨rfl, rfl⟩]
  have g301 : ga v 301 = rowL (ga st 301) fD := by
    rw [ev]; unfold rdU; rw [rd2 hb hb9 hP h5]; unfold rdS
    rw [ga_si, ga_si, ga_si, ga_sa, if_neg (by decide), ga_sa, if_neg (by decide), ga_sa, if_pos (by decide)]
  have g302 : ga v 302 = rowL (ga st 302) fF := by
    rw [ev]; unfold rdU; rw [rd2 hb hb9 hP h5]; unfold rdS
    rw [ga_si, ga_si, ga_si, ga_sa, if_neg (by decide), ga_sa, if_pos (by decide)]
  have g303 : ga v 303 = rowL (ga st 303) (fS bd) := by
    rw [ev]; unfold rdU; rw [rd2 hb hb9 hP h5]; unfold rdS
    rw [ga_si, ga_si, ga_si, ga_sa, if_pos (by decide)]
  rw [← ev] at hR hcl ⊢
  obtain ⟨a1, a2, a3, a4, a5, a6, a7, a8, a9, b1, b2, b3, b4⟩ := hR
  obtain ⟨p1, p2, p3, p4⟩ := Ls9_a
  have hi : ∀ f k, ¬ (f = 3 ∧ k = 0) → ¬ k = 304 → gi (uR (uT v)) f k = gi v f k := fun f k h h2 => uT_i v f k h h2
  have ha : ∀ k, k < 304 → ¬ (31 ≤ k ∧ k < 37) → ga (uR (uT v)) k = ga v k := fun k h h2 => (uR_o _ k h2).trans (uT_a v k h)
  refine ⟨⟨fun k h => p1 k (of_decide_eq_true h), fun k h1 h2 => p2 k h2 h1, fun b hb j hj => ?_, fun b h1 h2 k hk hq => ?_, fun j hj => p4 j hj, hcl, fun k h1 h2 hq => ?_, fun i h1 h2 hq => ?_, by decide⟩, ⟨by decide, (hi 4 4 (by decide) (by decide)).trans a4, fun i h => absurd h (Nat.not_lt_zero _)⟩, ⟨(hi 4 0 (by decide) (by decide)).trans a5, fun i _ => ⟨0, by decide, ?_⟩, fun i _ => ?_, fun i _ => ⟨0, by decide, ?_⟩, fun i _ => ?_⟩,
    ⟨by decide, a2, (hi 10 0 (by decide) (by decide)).trans a6, (hi 3 100 (by decide) (by decide)).trans a7, (hi 12 100 (by decide) (by decide)).trans a8, fun k hk => absurd hk (Nat.not_lt_zero _)⟩, ⟨fun i _ => ?_, fun b hb => absurd hb (Nat.not_lt_zero _)⟩, ⟨by decide, (hi 3 5 (by decide) (by decide)).trans a9⟩, hb, hb9, fun i hi => ?_, (hi _ _ (by decide) (by decide)).trans g23, fun j hj => ?_⟩
  · obtain rfl : b = 0 := by omega
    exact p3 j hj
  · obtain ⟨j, h3, h4⟩ := LsB_iff.mp hk
    have := Ls9_r k hq; omega
  · have := Ls9_r k hq; omega
  · have := Ls9_r _ hq; omega
  · rw [ha 7 (by decide) (by decide)]; exact b2 i
  · rw [ha 7 (by decide) (by decide), b2 i]; exact uR_z _ 36 i (by decide) (by decide)
  · rw [ha 8 (by decide) (by decide)]; exact b3 i
  · rw [ha 8 (by decide) (by decide), b3 i]; exact uR_z _ 35 i (by decide) (by decide)
  · rw [if_neg (Nat.not_lt_zero _)]; exact b1 9 i
  · show (if i = 0 then some (300 + 4 * 0) else gb v 6 i) = _
    by_cases e : i = 0
    · rw [if_pos e, if_pos (by omega)]
    · rw [if_neg e, if_neg (by omega)]; exact b1 6 i
  · rw [ha 301 (by decide) (by decide), ha 302 (by decide) (by decide), ha 303 (by decide) (by decide), g301, g302, g303]
    exact ⟨if_pos hj, if_pos hj, if_pos hj⟩
