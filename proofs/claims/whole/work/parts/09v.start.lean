/-! ===== the start ===== -/
set_option maxRecDepth 100000 in
theorem Ls0_lo : ∀ k, k < 20 → k ∈ Ls0 := by decide +kernel
set_option maxRecDepth 100000 in
theorem Ls0_M : ∀ k ∈ LsM, k ∈ Ls0 := by decide +kernel
set_option maxRecDepth 100000 in
theorem Ls0_b : ∀ j, j < 6 → 100 + j ∈ Ls0 := by decide +kernel
set_option maxRecDepth 100000 in
theorem Ls0_f : ∀ j, j < 4 → 300 + j ∈ Ls0 := by decide +kernel
set_option maxRecDepth 100000 in
theorem Ls0_r : ∀ k ∈ Ls0, k < 106 ∨ (300 ≤ k ∧ k < 304) := by decide +kernel
set_option maxRecDepth 100000 in
theorem Ls0_c : ∀ k ∈ Ls0, kd k < 9 → ∀ f, f < nfl (kd k) → 10 ≤ fcd (kd k) f → k + (fcd (kd k) f - 10) ∈ Ls0 := by decide +kernel
theorem LI0 : LI 0 Ls0 st0 := by
  refine ⟨0, 0, 0, fun _ => 0, fun _ => 0, fun _ => 0, 0, 0, 0, 0, fun _ => 0, fun _ => some 0, 0, ⟨fun k h => Ls0_lo k (of_decide_eq_true h), by decide +kernel, Ls0_M, fun b hb j hj => ?_, fun b h1 h2 k hk hq => ?_, fun f hf j hj => ?_, fun f h1 k hk hq => ?_, fun k hk => ⟨fun h1 f hf => ⟨Ls0_c k hk h1 f hf, fun _ j hj => ?_⟩, fun _ i j hj => by cases hj⟩, by decide, by decide⟩, ⟨by decide, rfl, rfl, fun i hi => absurd hi (Nat.not_lt_zero _)⟩,
    ⟨Nat.le_refl _, rfl, rfl, rfl, fun i _ => (if_neg (Nat.not_lt_zero _)).symm ▸ rfl, fun j hj => absurd hj (Nat.not_lt_zero _), fun i j hi => absurd hi (Nat.not_lt_zero _)⟩, ⟨by decide, rfl, rfl, fun i hi => absurd hi (Nat.not_lt_zero _)⟩, ⟨by decide, rfl, rfl, fun i _ => ⟨rfl, 0, by decide, rfl⟩, fun i _ => ⟨rfl, 0, by decide, rfl⟩⟩,
    ⟨by decide, rfl, rfl, rfl, rfl, fun i hi => absurd hi (Nat.not_lt_zero _)⟩, ⟨rfl, rfl, fun i _ => (if_neg (Nat.not_lt_zero _)).symm ▸ rfl, fun b hb => absurd hb (Nat.not_lt_zero _), fun i _ => ⟨fun j q => by cases q; decide, rfl⟩⟩, ⟨by decide, rfl, rfl, fun i hi => absurd hi (Nat.not_lt_zero _), fun b hb => absurd hb (Nat.not_lt_zero _)⟩⟩
  · obtain rfl : b = 0 := by omega
    exact Ls0_b j hj
  · obtain ⟨j, h3, h4⟩ := LsB_iff.mp hk
    have := Ls0_r k hq; omega
  · obtain rfl : f = 0 := by omega
    exact Ls0_f j hj
  · obtain ⟨j, h3, h4⟩ := LsF_iff.mp hk
    have := Ls0_r k hq; omega
  · change (if f = 8 ∧ k = 0 then some 100 else if f = 1 ∧ k = 1 then some 300 else none) = some j at hj
    split at hj
    · cases hj; exact Ls0_b 0 (by decide)
    · split at hj
      · cases hj; exact Ls0_f 0 (by decide)
      · cases hj
