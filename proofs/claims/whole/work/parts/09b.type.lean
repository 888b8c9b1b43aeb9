/-! ===== type: both count and put the same signs ===== -/
theorem by_nz : ∀ (j m : Nat), m ≠ 0 → m < 256 ^ j → ∃ i, i < j ∧ m / 256 ^ i % 256 ≠ 0 := by
  intro j
  induction j with
  | zero => intro m h0 h; exact absurd (Nat.lt_one_iff.mp h) h0
  | succ j ih =>
    intro m h0 h
    by_cases h1 : m % 256 = 0
    · obtain ⟨i, hi, h2⟩ := ih (m / 256) (by omega) (by rw [Nat.pow_succ] at h; omega)
      exact ⟨i + 1, by omega, by rw [Nat.pow_succ, Nat.mul_comm, ← Nat.div_div_eq_div_mul]; exact h2⟩
    · exact ⟨0, by omega, by rw [Nat.pow_zero, Nat.div_one]; exact h1⟩
theorem by_dd (n c i : Nat) : n / 256 ^ c / 256 ^ i = n / 256 ^ (c + i) := by rw [Nat.div_div_eq_div_mul, ← Nat.pow_add]
theorem tyF_f {n k : Nat} (h : (tyF n k).1 = false) : ∀ i, (tyF n (k + i)).1 = false := by
  intro i
  induction i with
  | zero => exact h
  | succ i ih => show ((tyF n (k + i)).1 && _) = false; rw [ih]; rfl
theorem tyF_z {n c : Nat} (h : tyF n c = (true, c)) (h0 : n / 256 ^ c = 0) : ∀ i, tyF n (c + i) = (true, c) := by
  intro i
  induction i with
  | zero => exact h
  | succ i ih =>
    have e : n / 256 ^ (c + i) % 256 = 0 := by rw [← by_dd, h0, Nat.zero_div]
    show tyF n (c + i + 1) = _
    rw [tyF, ih, e]
    rfl
theorem tyF_lt {n c : Nat} (h : tyF n c = (true, c)) (h0 : n / 256 ^ c % 256 = 0) : ∀ i, (tyF n (c + 1 + i)).2 ≤ c + i := by
  intro i
  induction i with
  | zero => show (tyF n c).2 + _ ≤ _; rw [h, h0]; exact Nat.le_refl _
  | succ i ih => show (tyF n (c + 1 + i)).2 + (if _ then 0 else 1) ≤ _; split <;> omega
theorem csN_ty (n : Nat) (hn : n < 2 ^ 64) : ∀ (k c : Nat), c + k = 8 → tyF n c = (true, c) → csN k (n / 256 ^ c) c = if (tyF n 8).1 then some (tyF n 8).2 else none := by
  intro k
  induction k with
  | zero => intro c hc h; rw [show c = 8 by omega] at h; rw [h]; rfl
  | succ k ih =>
    intro c hc h
    rw [csN]
    by_cases h0 : n / 256 ^ c % 256 = 0
    · rw [if_pos h0]
      by_cases h1 : n / 256 ^ c = 0
      · rw [if_pos h1]
        have := tyF_z h h1 (k + 1)
        rw [hc] at this
        rw [this]; rfl
      · rw [if_neg h1]
        obtain ⟨i, hi, h2⟩ := by_nz (k + 1) (n / 256 ^ c) h1 (Nat.div_lt_of_lt_mul (by rw [← Nat.pow_add, hc]; exact Nat.lt_of_lt_of_le hn (by decide)))
        rw [by_dd] at h2
        rcases i with _ | i
        · exact absurd h0 h2
        have h3 := tyF_lt h h0 i
        have h4 : (tyF n (c + 1 + i + 1)).1 = false := by
          show ((tyF n (c + 1 + i)).1 && (decide (n / 256 ^ (c + 1 + i) % 256 = 0) || (_ && decide ((tyF n (c + 1 + i)).2 = c + 1 + i)))) = false
          rw [decide_eq_false (show ¬ n / 256 ^ (c + 1 + i) % 256 = 0 by rw [show c + 1 + i = c + (i + 1) by omega]; exact h2), decide_eq_false (show ¬ (tyF n (c + 1 + i)).2 = c + 1 + i by omega), Bool.and_false, Bool.or_self, Bool.and_false]
        have h5 := tyF_f h4 (k - (i + 1))
        rw [show c + 1 + i + 1 + (k - (i + 1)) = 8 by omega] at h5
        rw [h5]; rfl
    · rw [if_neg h0]
      by_cases h1 : n / 256 ^ c % 256 < 32 ∨ 126 < n / 256 ^ c % 256
      · rw [if_pos h1]
        have h4 : (tyF n (c + 1)).1 = false := by
          show ((tyF n c).1 && (decide (n / 256 ^ c % 256 = 0) || (inR (nI (n / 256 ^ c % 256)) (nI 32) (nI 126) && _))) = false
          have hin : inR (nI (n / 256 ^ c % 256)) (nI 32) (nI 126) = false := by
            rw [← Bool.not_eq_true, in_iff (by decide) (by decide), nI_toInt (by omega)]; omega
          rw [decide_eq_false h0, hin, Bool.false_and, Bool.or_self, Bool.and_false]
        have h5 := tyF_f h4 k
        rw [show c + 1 + k = 8 by omega] at h5
        rw [h5]; rfl
      · rw [if_neg h1]
        have h4 : tyF n (c + 1) = (true, c + 1) := by
          have hin : inR (nI (n / 256 ^ c % 256)) (nI 32) (nI 126) = true := by
            rw [in_iff (by decide) (by decide), nI_toInt (by omega)]; omega
          rw [tyF, h]
          show (true && (decide _ || (_ && decide (c = c))), c + if _ then 0 else 1) = _
          rw [hin, decide_eq_false h0, decide_eq_true rfl, if_neg h0]; rfl
        have h5 := ih (c + 1) (by omega) h4
        rw [Nat.pow_succ, ← Nat.div_div_eq_div_mul] at h5
        exact h5
theorem csN_eq {n : Nat} (hn : n < 2 ^ 64) : csN 8 n 0 = if (tyF n 8).1 then some (tyF n 8).2 else none := by
  have := csN_ty n hn 8 0 rfl rfl
  rwa [Nat.pow_zero, Nat.div_one] at this
theorem k_eType {np n : Nat} (hn : n < 2 ^ 64) : kType np n = kbType np n := by
  unfold kType kbType
  rw [csN_eq hn]
  cases (tyF n 8).1 <;> rfl
theorem csN_rg : ∀ (k n c j : Nat), csN k n c = some j → c + k = 8 → c ≤ j ∧ ∀ i, c + i < j → 32 ≤ n / 256 ^ i % 256 ∧ n / 256 ^ i % 256 ≤ 126 := by
  intro k
  induction k with
  | zero => intro n c j h hc; cases h; exact ⟨by omega, fun i hi => by omega⟩
  | succ k ih =>
    intro n c j h hc
    rw [csN] at h
    by_cases h1 : n % 256 = 0
    · rw [if_pos h1] at h
      by_cases h2 : n = 0
      · rw [if_pos h2] at h; cases h; exact ⟨Nat.le_refl _, fun i hi => by omega⟩
      · rw [if_neg h2] at h; cases h
    · rw [if_neg h1] at h
      by_cases h2 : n % 256 < 32 ∨ 126 < n % 256
      · rw [if_pos h2] at h; cases h
      · rw [if_neg h2] at h
        obtain ⟨g1, g2⟩ := ih _ _ _ h (by omega)
        refine ⟨by omega, fun i hi => ?_⟩
        rcases i with _ | i
        · rw [Nat.pow_zero, Nat.div_one]; omega
        · have := g2 i (by omega)
          rwa [Nat.div_div_eq_div_mul, Nat.mul_comm, ← Nat.pow_succ] at this
theorem xset_upd {n : Nat} {f : Nat → Int32} {i : Nat} {v : Int32} (h : i < n) (hn : n < 2 ^ 31) : xset n f (nI i) v = upd f i v := by
  unfold xset
  rw [nI_clamp (by omega), if_neg (fun q => q.elim (nI_pos (by omega)) (fun q => absurd q (Nat.not_le.mpr h)))]
theorem xget_at {n : Nat} {f : Nat → Int32} {i : Nat} (h : i < n) (hn : n < 2 ^ 31) : xget n f (nI i) = f i := by
  unfold xget
  rw [nI_clamp (by omega), if_neg (fun q => q.elim (nI_pos (by omega)) (fun q => absurd q (Nat.not_le.mpr h)))]
theorem apF_lo {f : Nat → Int32} {m n : Nat} : ∀ (k : Nat), m + k ≤ 160 → ∀ i, (i < m → apF f m n k i = f i) ∧ (m ≤ i → i < m + k → apF f m n k i = nI (n / 256 ^ (i - m) % 256)) := by
  intro k
  induction k with
  | zero => intro _ i; exact ⟨fun _ => rfl, fun _ _ => by omega⟩
  | succ k ih =>
    intro h i
    obtain ⟨g1, g2⟩ := ih (by omega) i
    rw [apF, xset_upd (by omega) (by decide)]
    refine ⟨fun hi => by rw [upd_ne _ _ (by omega)]; exact g1 hi, fun h1 h2 => ?_⟩
    by_cases e : i = m + k
    · subst e; rw [upd_at, Nat.add_sub_cancel_left]
    · rw [upd_ne _ _ e]; exact g2 h1 (by omega)
theorem tyP_lo {f : Nat → Int32} {m n : Nat} : ∀ (k : Nat), ∀ i, (i < m → tyP f m n k i = f i) ∧ (m ≤ i → i < m + k → tyP f m n k i = nI (n / 256 ^ (i - m) % 256)) := by
  intro k
  induction k with
  | zero => intro i; exact ⟨fun _ => rfl, fun _ _ => by omega⟩
  | succ k ih =>
    intro i
    obtain ⟨g1, g2⟩ := ih i
    rw [tyP]
    refine ⟨fun hi => by rw [upd_ne _ _ (by omega)]; exact g1 hi, fun h1 h2 => ?_⟩
    by_cases e : i = m + k
    · subst e; rw [upd_at, Nat.add_sub_cancel_left]
    · rw [upd_ne _ _ e]; exact g2 h1 (by omega)
