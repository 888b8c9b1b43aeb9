/-! ===== a form and its text ===== -/
section SGD
variable (D F S X mk bo ot : Nat → Int32)
def Itm (P : Bool → Nat → Nat → Nat → Nat → Prop) (il : Bool) (i a i1 a1 : Nat) : Prop :=
  (¬ X a = nI 123 ∧ mk a = nI 0 ∧ D i = nI 0 ∧ F i = X a ∧ i1 = i + 1 ∧ a1 = a + 1) ∨
  (X a = nI 123 ∧ nmB (X (a + 1)) il = true ∧ D i = nI 1 ∧ F i = X (a + 1) ∧ i1 = i + 1 ∧ ∃ w, w < 10 ∧ S i = nI w ∧ ((X (a + 2) = nI 125 ∧ a1 = a + 3 ∧ w = 0) ∨ (X (a + 2) = nI (48 + w) ∧ a1 = a + 4))) ∨
  (il = false ∧ X a = nI 123 ∧ X (a + 1) = nI 42 ∧ bo a = nI (a + 2) ∧ D i = nI 7 ∧ ∃ j b, P true (i + 1) (a + 2) j b ∧ ¬ X b = nI 123 ∧ mk b = nI 1 ∧ D j = nI 8 ∧ S j = nI (i + 1) ∧ i1 = j + 1 ∧ a1 = b + 2) ∨
  (X a = nI 123 ∧ X (a + 1) = nI 63 ∧ ∃ i2 c2 i3 c3, SmC D F S X il i (a + 2) i2 c2 ∧ pqR (X c2) = true ∧ D i2 = nI 4 ∧ SmC D F S X il (i2 + 1) (c2 + 1) i3 c3 ∧ X c3 = nI 58 ∧ bo a = nI (c3 + 1) ∧ D i3 = nI 5 ∧ F i3 = X c2 ∧ ∃ j b, P il (i3 + 1) (c3 + 1) j b ∧ ¬ X b = nI 123 ∧
    ((mk b = nI 3 ∧ S i3 = nI j ∧ ot a = nI (b + 1) ∧ i1 = j ∧ a1 = b + 1) ∨
     (mk b = nI 2 ∧ D j = nI 6 ∧ S i3 = nI (j + 1) ∧ ot a = nI (b + 1) ∧ ∃ j2 b2, P il (j + 1) (b + 1) j2 b2 ∧ ot b = nI (b2 + 1) ∧ S j = nI j2 ∧ ¬ X b2 = nI 123 ∧ mk b2 = nI 3 ∧ i1 = j2 ∧ a1 = b2 + 1)))
def Seg : Nat → Bool → Nat → Nat → Nat → Nat → Prop
  | 0, _, i, a, i', a' => i' = i ∧ a' = a
  | n + 1, il, i, a, i', a' => (i' = i ∧ a' = a) ∨ ∃ i1 a1, Itm D F S X mk bo ot (Seg n) il i a i1 a1 ∧ Seg n il i1 a1 i' a'
end SGD
def PLe (P : Bool → Nat → Nat → Nat → Nat → Prop) : Prop := ∀ il i a i' a', P il i a i' a' → i ≤ i' ∧ a ≤ a'
section SGL
variable {D F S X mk bo ot D2 F2 S2 X2 mk2 bo2 ot2 : Nat → Int32}
theorem Itm_le {P : Bool → Nat → Nat → Nat → Nat → Prop} (hP : PLe P) {il : Bool} {i a i1 a1 : Nat} (h : Itm D F S X mk bo ot P il i a i1 a1) : i < i1 ∧ a < a1 := by
  rcases h with ⟨_, _, _, _, e1, e2⟩ | ⟨_, _, _, _, e1, w, _, _, h⟩ | ⟨_, _, _, _, _, j, b, h, _, _, _, _, e1, e2⟩ | ⟨_, _, i2, c2, i3, c3, h1, _, _, h2, _, _, _, _, j, b, h3, _, h⟩
  · omega
  · rcases h with ⟨_, e2, _⟩ | ⟨_, e2⟩ <;> omega
  · have := hP _ _ _ _ _ h; omega
  · have g1 := SmC_le h1; have g2 := SmC_le h2; have g3 := hP _ _ _ _ _ h3
    rcases h with ⟨_, _, _, e1, e2⟩ | ⟨_, _, _, _, j2, b2, h4, _, _, _, _, e1, e2⟩
    · omega
    · have g4 := hP _ _ _ _ _ h4; omega
theorem Seg_le : ∀ n, PLe (Seg D F S X mk bo ot n) := by
  intro n
  induction n with
  | zero => intro il i a i' a' h; obtain ⟨rfl, rfl⟩ := h; exact ⟨Nat.le_refl _, Nat.le_refl _⟩
  | succ n ih =>
    intro il i a i' a' h
    rcases h with ⟨rfl, rfl⟩ | ⟨i1, a1, h1, h2⟩
    · exact ⟨Nat.le_refl _, Nat.le_refl _⟩
    · have g1 := Itm_le ih h1; have g2 := ih _ _ _ _ _ h2; omega
theorem Itm_up {P Q : Bool → Nat → Nat → Nat → Nat → Prop} (hPQ : ∀ il i a i' a', P il i a i' a' → Q il i a i' a') {il : Bool} {i a i1 a1 : Nat} (h : Itm D F S X mk bo ot P il i a i1 a1) : Itm D F S X mk bo ot Q il i a i1 a1 := by
  rcases h with h | h | ⟨e0, e1, e2, e3, e4, j, b, h, g⟩ | ⟨e1, e2, i2, c2, i3, c3, h1, e3, e4, h2, e5, e6, e7, e8, j, b, h3, e9, h⟩
  · exact Or.inl h
  · exact Or.inr (Or.inl h)
  · exact Or.inr (Or.inr (Or.inl ⟨e0, e1, e2, e3, e4, j, b, hPQ _ _ _ _ _ h, g⟩))
  · refine Or.inr (Or.inr (Or.inr ⟨e1, e2, i2, c2, i3, c3, h1, e3, e4, h2, e5, e6, e7, e8, j, b, hPQ _ _ _ _ _ h3, e9, ?_⟩))
    rcases h with h | ⟨f1, f2, f3, f4, j2, b2, h4, g⟩
    · exact Or.inl h
    · exact Or.inr ⟨f1, f2, f3, f4, j2, b2, hPQ _ _ _ _ _ h4, g⟩
theorem Seg_up1 : ∀ n il i a i' a', Seg D F S X mk bo ot n il i a i' a' → Seg D F S X mk bo ot (n + 1) il i a i' a' := by
  intro n
  induction n with
  | zero => intro il i a i' a' h; exact Or.inl h
  | succ n ih =>
    intro il i a i' a' h
    rcases h with h | ⟨i1, a1, h1, h2⟩
    · exact Or.inl h
    · exact Or.inr ⟨i1, a1, Itm_up ih h1, ih _ _ _ _ _ h2⟩
theorem Seg_up {n m : Nat} (hm : n ≤ m) : ∀ il i a i' a', Seg D F S X mk bo ot n il i a i' a' → Seg D F S X mk bo ot m il i a i' a' := by
  induction m with
  | zero => obtain rfl : n = 0 := by omega
            exact fun _ _ _ _ _ h => h
  | succ m ih =>
    by_cases e : n = m + 1
    · subst e; exact fun _ _ _ _ _ h => h
    · exact fun il i a i' a' h => Seg_up1 m _ _ _ _ _ (ih (by omega) _ _ _ _ _ h)
def AgR (D F S D2 F2 S2 : Nat → Int32) (i j : Nat) : Prop := ∀ k, i ≤ k → k < j → D2 k = D k ∧ F2 k = F k ∧ S2 k = S k
def AgT (X mk bo ot X2 mk2 bo2 ot2 : Nat → Int32) (a b : Nat) : Prop := ∀ p, a ≤ p → p < b → X2 p = X p ∧ mk2 p = mk p ∧ bo2 p = bo p ∧ ot2 p = ot p
theorem AgR_in {i j i2 j2 : Nat} (h : AgR D F S D2 F2 S2 i j) (h1 : i ≤ i2) (h2 : j2 ≤ j) : AgR D F S D2 F2 S2 i2 j2 := fun k q1 q2 => h k (by omega) (by omega)
theorem AgT_in {i j i2 j2 : Nat} (h : AgT X mk bo ot X2 mk2 bo2 ot2 i j) (h1 : i ≤ i2) (h2 : j2 ≤ j) : AgT X mk bo ot X2 mk2 bo2 ot2 i2 j2 := fun k q1 q2 => h k (by omega) (by omega)
theorem Itm_K {P Q : Bool → Nat → Nat → Nat → Nat → Prop} (hP : PLe P) {il : Bool} {i a i1 a1 : Nat} (h : Itm D F S X mk bo ot P il i a i1 a1) (hc : AgR D F S D2 F2 S2 i i1) (hx : AgT X mk bo ot X2 mk2 bo2 ot2 a a1) (hPQ : ∀ il i3 a3 i4 a4, i ≤ i3 → i4 ≤ i1 → a ≤ a3 → a4 ≤ a1 → P il i3 a3 i4 a4 → Q il i3 a3 i4 a4) : Itm D2 F2 S2 X2 mk2 bo2 ot2 Q il i a i1 a1 := by
  have hle := Itm_le hP h
  have X0 := hx a (Nat.le_refl _) hle.2
  have C0 := hc i (Nat.le_refl _) hle.1
  rcases h with ⟨e1, e2, e3, e4, e5, e6⟩ | ⟨e1, e2, e3, e4, e5, w, e6, e7, h⟩ | ⟨e0, e1, e2, e3, e4, j, b, h, f1, f2, f3, f4, f5, f6⟩ | ⟨e1, e2, i2, c2, i3, c3, h1, e3, e4, h2, e5, e6, e7, e8, j, b, h3, e9, h⟩
  · exact Or.inl ⟨by rw [X0.1]; exact e1, X0.2.1.trans e2, C0.1.trans e3, by rw [C0.2.1, X0.1]; exact e4, e5, e6⟩
  · have ha : a + 3 ≤ a1 := by rcases h with ⟨_, q, _⟩ | ⟨_, q⟩ <;> omega
    have X1 := hx (a + 1) (by omega) (by omega)
    have X3 := hx (a + 2) (by omega) (by omega)
    exact Or.inr (Or.inl ⟨X0.1.trans e1, by rw [X1.1]; exact e2, C0.1.trans e3, by rw [C0.2.1, X1.1]; exact e4, e5, w, e6, C0.2.2.trans e7, by rw [X3.1]; exact h⟩)
  · have g := hP _ _ _ _ _ h
    have X1 := hx (a + 1) (by omega) (by omega)
    have Xb := hx b (by omega) (by omega)
    have Cj := hc j (by omega) (by omega)
    exact Or.inr (Or.inr (Or.inl ⟨e0, X0.1.trans e1, X1.1.trans e2, X0.2.2.1.trans e3, C0.1.trans e4, j, b, hPQ _ _ _ _ _ (by omega) (by omega) (by omega) (by omega) h, by rw [Xb.1]; exact f1, Xb.2.1.trans f2, Cj.1.trans f3, Cj.2.2.trans f4, f5, f6⟩))
  · have g1 := SmC_le h1; have g2 := SmC_le h2; have g3 := hP _ _ _ _ _ h3
    have hb : j ≤ i1 ∧ b < a1 := by
      rcases h with ⟨_, _, _, q1, q2⟩ | ⟨_, _, _, _, j2, b2, h4, _, _, _, _, q1, q2⟩
      · omega
      · have g4 := hP _ _ _ _ _ h4; omega
    have X1 := hx (a + 1) (by omega) (by omega)
    have Xc := hx c2 (by omega) (by omega)
    have Xd := hx c3 (by omega) (by omega)
    have Xb := hx b (by omega) (by omega)
    have C2 := hc i2 (by omega) (by omega)
    have C3 := hc i3 (by omega) (by omega)
    refine Or.inr (Or.inr (Or.inr ⟨X0.1.trans e1, X1.1.trans e2, i2, c2, i3, c3, SmC_K h1 (fun k q1 q2 => hc k q1 (by omega)) (fun p q1 q2 => (hx p (by omega) (by omega)).1), by rw [Xc.1]; exact e3, C2.1.trans e4, SmC_K h2 (fun k q1 q2 => hc k (by omega) (by omega)) (fun p q1 q2 => (hx p (by omega) (by omega)).1), Xd.1.trans e5, X0.2.2.1.trans e6, C3.1.trans e7, by rw [C3.2.1, Xc.1]; exact e8, j, b, hPQ _ _ _ _ _ (by omega) (by omega) (by omega) (by omega) h3, by rw [Xb.1]; exact e9, ?_⟩))
    rcases h with ⟨f1, f2, f3, q1, q2⟩ | ⟨f1, f2, f3, f4, j2, b2, h4, f5, f6, f7, f8, q1, q2⟩
    · exact Or.inl ⟨Xb.2.1.trans f1, C3.2.2.trans f2, X0.2.2.2.trans f3, q1, q2⟩
    · have g4 := hP _ _ _ _ _ h4
      have Cj := hc j (by omega) (by omega)
      have X2b := hx b2 (by omega) (by omega)
      exact Or.inr ⟨Xb.2.1.trans f1, Cj.1.trans f2, C3.2.2.trans f3, X0.2.2.2.trans f4, j2, b2, hPQ _ _ _ _ _ (by omega) (by omega) (by omega) (by omega) h4, Xb.2.2.2.trans f5, Cj.2.2.trans f6, by rw [X2b.1]; exact f7, X2b.2.1.trans f8, q1, q2⟩
theorem Seg_K : ∀ n il i a i' a', Seg D F S X mk bo ot n il i a i' a' → AgR D F S D2 F2 S2 i i' → AgT X mk bo ot X2 mk2 bo2 ot2 a a' → Seg D2 F2 S2 X2 mk2 bo2 ot2 n il i a i' a' := by
  intro n
  induction n with
  | zero => intro il i a i' a' h _ _; exact h
  | succ n ih =>
    intro il i a i' a' h hc hx
    rcases h with h | ⟨i1, a1, h1, h2⟩
    · exact Or.inl h
    · have g1 := Itm_le (Seg_le n) h1; have g2 := Seg_le n _ _ _ _ _ h2
      exact Or.inr ⟨i1, a1, Itm_K (Seg_le n) h1 (AgR_in hc (Nat.le_refl _) g2.1) (AgT_in hx (Nat.le_refl _) g2.2) (fun il i3 a3 i4 a4 q1 q2 q3 q4 h => ih _ _ _ _ _ h (AgR_in hc q1 (by omega)) (AgT_in hx q3 (by omega))), ih _ _ _ _ _ h2 (AgR_in hc (by omega) (Nat.le_refl _)) (AgT_in hx (by omega) (Nat.le_refl _))⟩
end SGL
