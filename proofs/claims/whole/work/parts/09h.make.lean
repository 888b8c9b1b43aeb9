/-! ===== make: the invariant behind it ===== -/
theorem LsB_iff {b k : Nat} : k ∈ LsB b ↔ ∃ j, j < 6 ∧ k = 100 + 6 * b + j := by
  constructor
  · intro h
    simp only [LsB, List.mem_cons, List.not_mem_nil, or_false] at h
    rcases h with h | h | h | h | h | h
    · exact ⟨0, by decide, h⟩
    · exact ⟨1, by decide, h⟩
    · exact ⟨2, by decide, h⟩
    · exact ⟨3, by decide, h⟩
    · exact ⟨4, by decide, h⟩
    · exact ⟨5, by decide, h⟩
  · rintro ⟨j, h1, h2⟩; rw [h2]; exact LsB_mem h1
theorem LsF_iff {f k : Nat} : k ∈ LsF f ↔ ∃ j, j < 4 ∧ k = 300 + 4 * f + j := by
  constructor
  · intro h
    simp only [LsF, List.mem_cons, List.not_mem_nil, or_false] at h
    rcases h with h | h | h | h
    · exact ⟨0, by decide, h⟩
    · exact ⟨1, by decide, h⟩
    · exact ⟨2, by decide, h⟩
    · exact ⟨3, by decide, h⟩
  · rintro ⟨j, h1, h2⟩; rw [h2]; exact LsF_mem h1
theorem xCl_app {st u : XS} {Ls N : List Nat} (h : xCl st Ls) (hgp : ∀ f k j, k ∈ Ls → gp u f k = some j → gp st f k = some j ∨ j ∈ Ls ++ N) (hgb : ∀ k i j, k ∈ Ls → gb u k i = some j → gb st k i = some j ∨ j ∈ Ls ++ N)
    (hN : ∀ k ∈ N, (kd k < 9 → ∀ f, f < nfl (kd k) → (10 ≤ fcd (kd k) f → k + (fcd (kd k) f - 10) ∈ Ls ++ N) ∧ (fcd (kd k) f = 2 → ∀ j, gp u f k = some j → j ∈ Ls ++ N)) ∧ ((kd k = 22 ∨ kd k = 23) → ∀ i j, gb u k i = some j → j ∈ Ls ++ N)) : xCl u (Ls ++ N) := by
  intro k hk
  rcases List.mem_append.mp hk with hk | hk
  · obtain ⟨c1, c2⟩ := h k hk
    refine ⟨fun a f hf => ⟨fun b => List.mem_append_left _ ((c1 a f hf).1 b), fun b j hj => ?_⟩, fun a i j hj => ?_⟩
    · rcases hgp f k j hk hj with e | e
      · exact List.mem_append_left _ ((c1 a f hf).2 b j e)
      · exact e
    · rcases hgb k i j hk hj with e | e
      · exact List.mem_append_left _ (c2 a i j e)
      · exact e
  · exact hN k hk
theorem xCl_LsB {u : XS} {Ls : List Nat} {b : Nat} (hb : b < 33) : ∀ k ∈ LsB b, (kd k < 9 → ∀ f, f < nfl (kd k) → (10 ≤ fcd (kd k) f → k + (fcd (kd k) f - 10) ∈ Ls ++ LsB b) ∧ (fcd (kd k) f = 2 → ∀ j, gp u f k = some j → j ∈ Ls ++ LsB b)) ∧ ((kd k = 22 ∨ kd k = 23) → ∀ i j, gb u k i = some j → j ∈ Ls ++ LsB b) := by
  intro k hk
  obtain ⟨j, hj, rfl⟩ := LsB_iff.mp hk
  rcases (show j = 0 ∨ j = 1 ∨ j = 2 ∨ j = 3 ∨ j = 4 ∨ j = 5 by omega) with rfl | rfl | rfl | rfl | rfl | rfl
  · rw [Nat.add_zero, kd_b0 hb]
    refine ⟨fun _ f hf => ⟨fun h => ?_, fun h => ?_⟩, fun h => by rcases h with h | h <;> cases h⟩
    · refine List.mem_append_right _ (LsB_mem ?_)
      rcases (show f = 0 ∨ f = 1 ∨ f = 2 ∨ f = 3 ∨ f = 4 ∨ f = 5 ∨ f = 6 ∨ f = 7 ∨ f = 8 ∨ f = 9 ∨ f = 10 ∨ f = 11 ∨ f = 12 by have h9 : f < 13 := hf; omega) with rfl | rfl | rfl | rfl | rfl | rfl | rfl | rfl | rfl | rfl | rfl | rfl | rfl <;> decide
    · exfalso
      rcases (show f = 0 ∨ f = 1 ∨ f = 2 ∨ f = 3 ∨ f = 4 ∨ f = 5 ∨ f = 6 ∨ f = 7 ∨ f = 8 ∨ f = 9 ∨ f = 10 ∨ f = 11 ∨ f = 12 by have h9 : f < 13 := hf; omega) with rfl | rfl | rfl | rfl | rfl | rfl | rfl | rfl | rfl | rfl | rfl | rfl | rfl <;> revert h <;> decide
  all_goals first | rw [kd_b1 hb] | rw [kd_b2 hb] | rw [kd_b3 hb] | rw [kd_b4 hb] | rw [kd_b5 hb]
  all_goals exact ⟨fun h => absurd h (by decide), fun h => absurd h (by decide)⟩
