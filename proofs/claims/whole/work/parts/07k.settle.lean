/-! ===== the reference: settle ===== -/
def mgM (nt : Nat) (kn : Nat → Nat → Nat) (ln : Nat → Nat) (td p : Int32) (b : Nat) (x : XS × Nat × Nat) : XS × Nat × Nat :=
  if ga x.1 62 b = p then
    (if mnN x.1 nt (kn b) b (ln b) - mxS (mnS x.1 nt (kn b) b (ln b)) b x.2.1 = 0 then (mnS x.1 nt (kn b) b (ln b), x.2)
    else if x.2.1 < 40 then (si (sa (sa (sa (mnS x.1 nt (kn b) b (ln b)) 72 (upd (ga (mnS x.1 nt (kn b) b (ln b)) 72) x.2.1 (nI b))) 73 (upd (ga (mnS x.1 nt (kn b) b (ln b)) 73) x.2.1 (mnN x.1 nt (kn b) b (ln b) - mxS (mnS x.1 nt (kn b) b (ln b)) b x.2.1))) 74 (upd (ga (mnS x.1 nt (kn b) b (ln b)) 74) x.2.1 td)) 41 30 (nI (x.2.1 + 1)), x.2.1 + 1, x.2.2 + 1)
    else (mnS x.1 nt (kn b) b (ln b), x.2))
  else x
def msA (nt : Nat) (kn : Nat → Nat → Nat) (ln : Nat → Nat) (td p : Int32) (x : XS × Nat × Nat) : Nat → XS × Nat × Nat
  | 0 => x
  | b + 1 => mgM nt kn ln td p b (msA nt kn ln td p x b)
/-- what the reference's settling leaves alone -/
def mKp (st u : XS) : Prop := (∀ k, gb u k = gb st k) ∧ (∀ f k, gp u f k = gp st f k) ∧ (∀ f k, ¬ (f = 41 ∧ k = 30) → gi u f k = gi st f k) ∧ (∀ k, ¬ k = 69 → ¬ k = 70 → ¬ k = 72 → ¬ k = 73 → ¬ k = 74 → ga u k = ga st k) ∧ ∀ f k, gl u f k = gl st f k
theorem mKp_rf (st : XS) : mKp st st := ⟨fun _ => rfl, fun _ _ => rfl, fun _ _ _ => rfl, fun _ _ _ _ _ _ => rfl, fun _ _ => rfl⟩
theorem mKp_tr {a b c : XS} (h : mKp a b) (g : mKp b c) : mKp a c :=
  ⟨fun k => (g.1 k).trans (h.1 k), fun f k => (g.2.1 f k).trans (h.2.1 f k), fun f k h1 => (g.2.2.1 f k h1).trans (h.2.2.1 f k h1), fun k h1 h2 h3 h4 h5 => (g.2.2.2.1 k h1 h2 h3 h4 h5).trans (h.2.2.2.1 k h1 h2 h3 h4 h5), fun f k => (g.2.2.2.2 f k).trans (h.2.2.2.2 f k)⟩
theorem mnS_K (st : XS) (nt : Nat) (kn : Nat → Nat) (b n : Nat) : mKp st (mnS st nt kn b n) :=
  ⟨fun _ => rfl, fun _ _ => rfl, fun _ _ _ => rfl, fun k h1 h2 _ _ _ => by unfold mnS; rw [ga_sa, if_neg h1, ga_sa, if_neg h2], fun _ _ => rfl⟩
theorem mgM_K (nt : Nat) (kn : Nat → Nat → Nat) (ln : Nat → Nat) (td p : Int32) (b : Nat) (x : XS × Nat × Nat) : mKp x.1 (mgM nt kn ln td p b x).1 := by
  unfold mgM
  split
  · split
    · exact mnS_K ..
    · split
      · refine mKp_tr (mnS_K x.1 nt (kn b) b (ln b)) ⟨fun _ => rfl, fun _ _ => rfl, fun f k h1 => ?_, fun k _ _ h3 h4 h5 => ?_, fun _ _ => rfl⟩
        · rw [gi_si, if_neg h1]; rfl
        · simp only [ga_si, ga_sa, if_neg h3, if_neg h4, if_neg h5]
      · exact mnS_K ..
  · exact mKp_rf _
theorem msA_K (nt : Nat) (kn : Nat → Nat → Nat) (ln : Nat → Nat) (td p : Int32) (x : XS × Nat × Nat) : ∀ i, mKp x.1 (msA nt kn ln td p x i).1 := by
  intro i
  induction i with
  | zero => exact mKp_rf _
  | succ i ih => exact mKp_tr ih (mgM_K ..)
theorem mgM_n (nt : Nat) (kn : Nat → Nat → Nat) (ln : Nat → Nat) (td p : Int32) (b : Nat) (x : XS × Nat × Nat) (h : gi x.1 41 30 = nI x.2.1 ∧ x.2.1 ≤ 40) : gi (mgM nt kn ln td p b x).1 41 30 = nI (mgM nt kn ln td p b x).2.1 ∧ (mgM nt kn ln td p b x).2.1 ≤ 40 := by
  unfold mgM
  split
  · split
    · exact h
    · split
      · next hc => exact ⟨by rw [gi_si, if_pos ⟨rfl, rfl⟩], hc⟩
      · exact h
  · exact h
theorem msA_n (nt : Nat) (kn : Nat → Nat → Nat) (ln : Nat → Nat) (td p : Int32) (x : XS × Nat × Nat) (h : gi x.1 41 30 = nI x.2.1 ∧ x.2.1 ≤ 40) : ∀ i, gi (msA nt kn ln td p x i).1 41 30 = nI (msA nt kn ln td p x i).2.1 ∧ (msA nt kn ln td p x i).2.1 ≤ 40 := by
  intro i
  induction i with
  | zero => exact h
  | succ i ih => exact mgM_n _ _ _ _ _ _ _ ih
theorem mxS_K {st u : XS} (h : ∀ k, ¬ k = 69 → ¬ k = 70 → ga u k = ga st k) (b : Nat) : ∀ n, mxS u b n = mxS st b n := by
  intro n
  induction n with
  | zero => show ga u 68 b = ga st 68 b; rw [h 68 (by decide) (by decide)]
  | succ n ih => rw [mxS, mxS, ih, h 72 (by decide) (by decide), h 73 (by decide) (by decide)]
