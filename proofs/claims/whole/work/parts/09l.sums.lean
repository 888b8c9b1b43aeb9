/-! ===== reading: signs ===== -/
def PG (T pg : Nat → Int32) (np : Nat) : Prop := np ≤ 160 ∧ ∀ i, i < np → pg i = T i ∧ ∃ n, 32 ≤ n ∧ n ≤ 126 ∧ T i = nI n
theorem sg_at {T pg : Nat → Int32} {np : Nat} (h : PG T pg np) {a : Nat} (ha : a < 1000) : sgF T np (nI a) = if a < np then pg a else nI 0 := by
  have h1 := h.1
  unfold sgF
  by_cases c : a < np
  · obtain ⟨e1, n, n1, n2, e2⟩ := h.2 a c
    rw [if_neg (fun q => absurd (nI_lt c (by omega)) (Int32.not_lt.mpr q)), if_pos c, xget_at (by omega) (by decide), e1, e2]
    exact nI_chr (by omega)
  · rw [if_neg c, if_pos (Int32.not_lt.mp (fun q => absurd ((i_ltN (by omega)).mp q) (by rw [nI_toInt (by omega)]; omega)))]
theorem sg_eq {T pg : Nat → Int32} {np : Nat} (h : PG T pg np) {a : Nat} (ha : a < 1000) {k : Nat} (hk : 0 < k) (hk2 : k < 1000) : sgF T np (nI a) = nI k ↔ msgF pg np a = nI k := by
  rw [sg_at h ha, msgF]
  by_cases c : a < np
  · rw [if_pos c, if_pos c]
  · rw [if_neg c, if_neg c]
    exact ⟨fun q => absurd ((nI_eq (by omega) (by omega)).mp q) (by omega), fun q => absurd q.symm (nI_ne1 (by omega))⟩
theorem sg_nm {T pg : Nat → Int32} {np : Nat} (h : PG T pg np) {a : Nat} (ha : a < 1000) (il : Bool) : nmB (sgF T np (nI a)) il = nmB (msgF pg np a) il := by
  rw [sg_at h ha, msgF]
  by_cases c : a < np
  · rw [if_pos c, if_pos c]
  · rw [if_neg c, if_neg c]; cases il <;> decide
theorem dg_in (x : Int32) : dgB x = inR x (nI 48) (nI 57) := by
  unfold dgB inR
  by_cases h1 : x < nI 48 <;> by_cases h2 : nI 57 < x <;> simp only [h1, h2, not_true, not_false_iff, decide_true, decide_false, and_self, and_true, true_and, Bool.and_true, Bool.and_self, Bool.true_and, Bool.and_false, false_and, and_false]
theorem sg_dg {T pg : Nat → Int32} {np : Nat} (h : PG T pg np) {a : Nat} (ha : a < 1000) : dgB (sgF T np (nI a)) = inR (msgF pg np a) (nI 48) (nI 57) := by
  rw [dg_in, sg_at h ha, msgF]
  by_cases c : a < np
  · rw [if_pos c, if_pos c]
  · rw [if_neg c, if_neg c]; decide
theorem sg_0 {T pg : Nat → Int32} {np : Nat} (h : PG T pg np) {a : Nat} (ha : a < 1000) : sgF T np (nI a) = 0 ↔ np ≤ a := by
  rw [sg_at h ha]
  by_cases c : a < np
  · rw [if_pos c]
    obtain ⟨e1, n, n1, n2, e2⟩ := h.2 a c
    rw [e1, e2]
    exact ⟨fun q => absurd ((nI_eq (b := 0) (by omega) (by omega)).mp q) (by omega), fun q => absurd c (by omega)⟩
  · rw [if_neg c]; exact ⟨fun _ => by omega, fun _ => rfl⟩
theorem msg_v {pg : Nat → Int32} {np a : Nat} {x : Int32} (h : a < np) : msgF pg np a = x ↔ pg a = x := by rw [msgF, if_pos h]
/-! ===== reading: digits and terms ===== -/
theorem l_of {n : Nat} (h : n < 2 ^ 31) : (nI n).toInt64 = Int64.ofNat n := by
  apply Int64.toInt_inj.mp
  rw [Int32.toInt_toInt64, nI_toInt h, Int64.toInt_ofNat_of_lt (by omega)]
theorem dg_v {v c : Nat} (hv : v < 100000000) (hc : 48 ≤ c) (hc2 : c ≤ 57) : nI v * nI 10 + (nI c - nI 48) = nI (v * 10 + (c - 48)) ∧ 10 * (nI v).toInt64 + (nI c).toInt64 - 48 = (nI (v * 10 + (c - 48))).toInt64 := by
  refine ⟨by rw [pk_mul, nI_sub hc, nI_add], ?_⟩
  rw [l_of (by omega), l_of (by omega), l_of (by omega)]
  have e : (10 : Int64) * Int64.ofNat v + Int64.ofNat c = Int64.ofNat (v * 10 + (c - 48)) + Int64.ofNat 48 := by
    rw [← Int64.ofNat_add, show (10 : Int64) = Int64.ofNat 10 from rfl, ← Int64.ofNat_mul, ← Int64.ofNat_add]
    congr 1; omega
  rw [e, show (48 : Int64) = Int64.ofNat 48 from rfl, Int64.add_sub_cancel]
section RT
variable {T pg : Nat → Int32} {np : Nat}
theorem in_dg {x : Int32} (h : inR x (nI 48) (nI 57) = true) : ∃ c, 48 ≤ c ∧ c ≤ 57 ∧ x = nI c := by
  have h1 := (in_iff (by decide) (by decide)).mp h
  exact ⟨x.toInt.toNat, by omega, by omega, (i_eqN (by omega)).mpr (by omega)⟩
theorem rDig_eq (h : PG T pg np) : ∀ (n a v t : Nat) (x : RS), n ≤ 6 → a ≤ np → x.1 = nI a → v * 10 ^ n < 1000000 → v + 1 ≤ 10 ^ (6 - n) →
    ∃ v', rDig T np n x (nI v) t = ((nI (pqD pg np n a), x.2), nI v', t + (pqD pg np n a - a)) ∧ v' < 2000000 ∧ kDg pg (pqD pg np n a - a) a (nI v).toInt64 = (pqD pg np n a, (nI v').toInt64) := by
  intro n
  induction n with
  | zero =>
    intro a v t x _ ha hx hv _
    obtain ⟨x1, x2⟩ := x
    obtain rfl : x1 = nI a := hx
    refine ⟨v, ?_, by omega, ?_⟩
    · rw [rDig, pqD, Nat.sub_self, Nat.add_zero]
    · rw [pqD, Nat.sub_self, kDg]
  | succ n ih =>
    intro a v t x hn ha hx hv hv2
    have hnp := h.1
    rw [rDig, pqD, hx, sg_dg h (by omega)]
    obtain ⟨x1, x2⟩ := x
    obtain rfl : x1 = nI a := hx
    have hp : (10 : Nat) ^ (6 - n) = 10 * 10 ^ (6 - (n + 1)) := by rw [show 6 - n = (6 - (n + 1)) + 1 by omega, Nat.pow_succ, Nat.mul_comm]
    have hp2 : (10 : Nat) ^ (6 - (n + 1)) ≤ 10 ^ 5 := Nat.pow_le_pow_right (by decide) (by omega)
    by_cases c : inR (msgF pg np a) (nI 48) (nI 57) = true
    · rw [if_pos c, if_pos c]
      have hlt := msg_dg c (by decide)
      obtain ⟨d, d1, d2, d3⟩ := in_dg c
      have e3 : pg a = nI d := (msg_v hlt).mp d3
      have e4 : sgF T np (nI a) = nI d := (sg_eq h (by omega) (by omega) (by omega)).mpr d3
      obtain ⟨g1, g2⟩ := dg_v (v := v) (c := d) (by omega) d1 d2
      obtain ⟨v', h1, h2, h3⟩ := ih (a + 1) (v * 10 + (d - 48)) (t + 1) (rUp (nI a, x2)) (by omega) (by omega) (nI_add _ _) (by
        have e9 : v + 1 ≤ 10 ^ (6 - (n + 1)) := hv2
        have e8 : v * 10 + (d - 48) + 1 ≤ 10 ^ (6 - n) := by omega
        have e7 : 10 ^ (6 - n) * 10 ^ n = (10 : Nat) ^ 6 := by rw [← Nat.pow_add]; congr 1; omega
        have e6 : (v * 10 + (d - 48) + 1) * 10 ^ n ≤ 10 ^ (6 - n) * 10 ^ n := Nat.mul_le_mul_right _ e8
        rw [e7, Nat.add_mul, Nat.one_mul] at e6
        have := Nat.pow_pos (a := 10) (n := n) (by decide)
        omega) (by omega)
      have hle := (pqD_le (pg := pg) (np := np) n (a + 1)).1
      refine ⟨v', ?_, h2, ?_⟩
      · rw [e4, g1]
        refine h1.trans ?_
        rw [show t + 1 + (pqD pg np n (a + 1) - (a + 1)) = t + (pqD pg np n (a + 1) - a) by omega]
        try rfl
      · rw [show pqD pg np n (a + 1) - a = (pqD pg np n (a + 1) - (a + 1)) + 1 by omega, kDg, e3, if_pos (by rw [← d3]; exact c), g2]
        exact h3
    · rw [if_neg c, if_neg c, Nat.sub_self, Nat.add_zero]
      exact ⟨v, rfl, by omega, rfl⟩
/-- a term's code and its text -/
def TmC (D F S X : Nat → Int32) (il : Bool) (d i a b : Nat) : Prop := i < 160 ∧ a < b ∧ D i = nI d ∧ ((inR (X a) (nI 48) (nI 57) = true ∧ F i = nI 0 ∧ ∃ v, v < 2 ^ 31 ∧ S i = nI v ∧ kDg X (b - a) a 0 = (b, (nI v).toInt64)) ∨ (inR (X a) (nI 48) (nI 57) = false ∧ nmB (X a) il = true ∧ F i = X a ∧ b = a + 1))
def TlC (D F S X : Nat → Int32) (il : Bool) : Nat → Nat → Nat → Nat → Nat → Prop
  | 0, i, b, i', c => i' = i ∧ c = b
  | n + 1, i, b, i', c => (i' = i ∧ c = b) ∨ (X b = nI 43 ∧ ∃ b2, TmC D F S X il 2 i (b + 1) b2 ∧ TlC D F S X il n (i + 1) b2 i' c) ∨ (X b = nI 45 ∧ ∃ b2, TmC D F S X il 3 i (b + 1) b2 ∧ TlC D F S X il n (i + 1) b2 i' c)
def SmC (D F S X : Nat → Int32) (il : Bool) (i a i' c : Nat) : Prop := ∃ b n, TmC D F S X il 2 i a b ∧ TlC D F S X il n (i + 1) b i' c
theorem TlC_le {D F S X : Nat → Int32} {il : Bool} : ∀ {n i b i' c : Nat}, TlC D F S X il n i b i' c → i ≤ i' ∧ b ≤ c := by
  intro n
  induction n with
  | zero => intro i b i' c h; obtain ⟨rfl, rfl⟩ := h; exact ⟨Nat.le_refl _, Nat.le_refl _⟩
  | succ n ih =>
    intro i b i' c h
    rcases h with ⟨rfl, rfl⟩ | ⟨_, b2, h1, h2⟩ | ⟨_, b2, h1, h2⟩
    · exact ⟨Nat.le_refl _, Nat.le_refl _⟩
    · have h3 := ih h2; have h4 := h1.2.1; omega
    · have h3 := ih h2; have h4 := h1.2.1; omega
theorem SmC_le {D F S X : Nat → Int32} {il : Bool} {i a i' c : Nat} (h : SmC D F S X il i a i' c) : i < i' ∧ a < c := by
  obtain ⟨b, n, h1, h2⟩ := h
  have h3 := TlC_le h2; have h4 := h1.2.1; omega
theorem kDg_K {X X2 : Nat → Int32} : ∀ (n a : Nat) (v : Int64), (∀ p, a ≤ p → p < a + n → X2 p = X p) → kDg X2 n a v = kDg X n a v := by
  intro n
  induction n with
  | zero => intro a v _; rfl
  | succ n ih => intro a v h; rw [kDg, kDg, h a (Nat.le_refl _) (by omega), ih (a + 1) _ (fun p h1 h2 => h p (by omega) (by omega))]
section K
variable {D F S X D2 F2 S2 X2 : Nat → Int32} {il : Bool}
theorem TmC_K {d i a b : Nat} (h : TmC D F S X il d i a b) (hc : D2 i = D i ∧ F2 i = F i ∧ S2 i = S i) (hx : ∀ p, a ≤ p → p < b → X2 p = X p) : TmC D2 F2 S2 X2 il d i a b := by
  obtain ⟨h1, h2, h3, h4⟩ := h
  have ea := hx a (Nat.le_refl _) h2
  refine ⟨h1, h2, hc.1.trans h3, ?_⟩
  rw [ea]
  rcases h4 with ⟨g1, g2, v, g3, g4, g5⟩ | ⟨g1, g2, g3, g4⟩
  · exact Or.inl ⟨g1, hc.2.1.trans g2, v, g3, hc.2.2.trans g4, (kDg_K _ _ _ (fun p q1 q2 => hx p q1 (by omega))).trans g5⟩
  · exact Or.inr ⟨g1, g2, hc.2.1.trans g3, g4⟩
theorem TlC_K : ∀ {n i b i' c : Nat}, TlC D F S X il n i b i' c → (∀ k, i ≤ k → k < i' → D2 k = D k ∧ F2 k = F k ∧ S2 k = S k) → (∀ p, b ≤ p → p < c → X2 p = X p) → TlC D2 F2 S2 X2 il n i b i' c := by
  intro n
  induction n with
  | zero => intro i b i' c h _ _; exact h
  | succ n ih =>
    intro i b i' c h hc hx
    rcases h with h | ⟨g1, b2, h1, h2⟩ | ⟨g1, b2, h1, h2⟩
    · exact Or.inl h
    · have h3 := TlC_le h2; have h4 := h1.2.1
      exact Or.inr (Or.inl ⟨(hx b (Nat.le_refl _) (by omega)).trans g1, b2, TmC_K h1 (hc i (Nat.le_refl _) (by omega)) (fun p q1 q2 => hx p (by omega) (by omega)), ih h2 (fun k q1 q2 => hc k (by omega) q2) (fun p q1 q2 => hx p (by omega) q2)⟩)
    · have h3 := TlC_le h2; have h4 := h1.2.1
      exact Or.inr (Or.inr ⟨(hx b (Nat.le_refl _) (by omega)).trans g1, b2, TmC_K h1 (hc i (Nat.le_refl _) (by omega)) (fun p q1 q2 => hx p (by omega) (by omega)), ih h2 (fun k q1 q2 => hc k (by omega) q2) (fun p q1 q2 => hx p (by omega) q2)⟩)
theorem SmC_K {i a i' c : Nat} (h : SmC D F S X il i a i' c) (hc : ∀ k, i ≤ k → k < i' → D2 k = D k ∧ F2 k = F k ∧ S2 k = S k) (hx : ∀ p, a ≤ p → p < c → X2 p = X p) : SmC D2 F2 S2 X2 il i a i' c := by
  obtain ⟨b, n, h1, h2⟩ := h
  have h3 := TlC_le h2; have h4 := h1.2.1
  exact ⟨b, n, TmC_K h1 (hc i (Nat.le_refl _) (by omega)) (fun p q1 q2 => hx p q1 (by omega)), TlC_K h2 (fun k q1 q2 => hc k (by omega) q2) (fun p q1 q2 => hx p (by omega) q2)⟩
end K
/-- what is added behind i leaves what is before -/
def AgC (i : Nat) (x y : RS) : Prop := ∀ k, k < i → y.2.2.2.1 k = x.2.2.2.1 k ∧ y.2.2.2.2.1 k = x.2.2.2.2.1 k ∧ y.2.2.2.2.2 k = x.2.2.2.2.2 k
theorem AgC_rf {i : Nat} {x : RS} : AgC i x x := fun _ _ => ⟨rfl, rfl, rfl⟩
theorem AgC_tr {i j : Nat} {x y z : RS} (h1 : AgC i x y) (h2 : AgC j y z) (h : i ≤ j) : AgC i x z := fun k hk => by
  obtain ⟨a1, a2, a3⟩ := h1 k hk; obtain ⟨b1, b2, b3⟩ := h2 k (by omega)
  exact ⟨b1.trans a1, b2.trans a2, b3.trans a3⟩
theorem rAdd_eq {x : RS} {i : Nat} (hz : x.2.2.1 = nI i) (hi : i < 160) (d f s : Int32) : rAdd x d f s = (x.1, x.2.1, nI (i + 1), upd x.2.2.2.1 i d, upd x.2.2.2.2.1 i f, upd x.2.2.2.2.2 i s) := by
  unfold rAdd
  rw [hz, nI_add, xset_upd hi (by decide), xset_upd hi (by decide), xset_upd hi (by decide)]
theorem AgC_add {x : RS} {i : Nat} (hz : x.2.2.1 = nI i) (hi : i < 160) (d f s : Int32) : AgC i x (rAdd x d f s) := by
  rw [rAdd_eq hz hi]
  exact fun k hk => ⟨upd_ne _ _ (by omega), upd_ne _ _ (by omega), upd_ne _ _ (by omega)⟩
theorem term_eq (h : PG T pg np) {il : Bool} {d a i : Nat} {x : RS} (hx : x.1 = nI a) (ha : a ≤ np) (hz : x.2.2.1 = nI i) (hi : i ≤ a) :
    (rTerm T np (nI d) il x).1 = (pqT pg np il a).2 ∧ (rTerm T np (nI d) il x).2.1 = nI (pqT pg np il a).1 ∧
    ((pqT pg np il a).2 = true → a < np ∧ i < 160 ∧ (rTerm T np (nI d) il x).2.2.1 = x.2.1 ∧ (rTerm T np (nI d) il x).2.2.2.1 = nI (i + 1) ∧ AgC i x (rTerm T np (nI d) il x).2 ∧ TmC (rTerm T np (nI d) il x).2.2.2.2.1 (rTerm T np (nI d) il x).2.2.2.2.2.1 (rTerm T np (nI d) il x).2.2.2.2.2.2 pg il d i a (pqT pg np il a).1) := by
  have hnp := h.1
  obtain ⟨v', r1, r2, r3⟩ := rDig_eq h 6 a 0 0 x (by decide) ha hx (by decide) (by decide)
  rw [Nat.zero_add] at r1
  have hD := pqD_le (pg := pg) (np := np) 6 a
  by_cases c : nmB (msgF pg np a) il = true
  · have hlt := msg_nm c
    have hnd : inR (msgF pg np a) (nI 48) (nI 57) = false := by
      cases q : inR (msgF pg np a) (nI 48) (nI 57) with
      | false => rfl
      | true =>
        obtain ⟨z, z1, z2, z3⟩ := in_dg q
        rw [z3] at c
        have hz9 : ∀ z, z < 58 → 48 ≤ z → nmB (nI z) il = false := by cases il <;> decide
        rw [hz9 z (by omega) z1] at c; cases c
    have hd0 : pqD pg np 6 a = a := by rw [pqD, hnd]; rfl
    have hT : pqT pg np il a = (a + 1, true) := by unfold pqT; rw [hd0, if_neg (Nat.lt_irrefl _), if_pos c]
    have hR : rTerm T np (nI d) il x = (true, rAdd (rUp x) (nI d) (sgF T np x.1) (nI 0)) := by unfold rTerm; rw [hx, sg_nm h (by omega), if_pos c]
    have hz1 : (rUp x).2.2.1 = nI i := hz
    rw [hT, hR]
    refine ⟨rfl, ?_, fun _ => ⟨hlt, by omega, rfl, ?_, ?_, ?_⟩⟩
    · show x.1 + nI 1 = _; rw [hx, nI_add]
    · rw [rAdd_eq hz1 (by omega)]
    · exact AgC_add hz1 (by omega) _ _ _
    · rw [rAdd_eq hz1 (by omega)]
      refine ⟨by omega, Nat.lt_succ_self _, upd_at .., Or.inr ⟨?_, ?_, ?_, rfl⟩⟩
      · rw [← (show msgF pg np a = pg a from if_pos hlt)]; exact hnd
      · rw [← (show msgF pg np a = pg a from if_pos hlt)]; exact c
      · show upd _ i _ i = _; rw [upd_at, hx, sg_at h (by omega), if_pos hlt]
  · have hR : rTerm T np (nI d) il x = (decide (0 < (rDig T np 6 x (nI 0) 0).2.2), rAdd (rDig T np 6 x (nI 0) 0).1 (nI d) (nI 0) (rDig T np 6 x (nI 0) 0).2.1) := by unfold rTerm; rw [hx, sg_nm h (by omega), if_neg c]
    rw [hR, r1]
    by_cases c2 : a < pqD pg np 6 a
    · have hT : pqT pg np il a = (pqD pg np 6 a, true) := by unfold pqT; rw [if_pos c2]
      have hz1 : ((nI (pqD pg np 6 a), x.2) : RS).2.2.1 = nI i := hz
      have hlt : a < np := by have := hD.2 ha; omega
      rw [hT]
      refine ⟨decide_eq_true (show 0 < pqD pg np 6 a - a by omega), rfl, fun _ => ⟨hlt, by omega, rfl, ?_, ?_, ?_⟩⟩
      · rw [rAdd_eq hz1 (by omega)]
      · exact AgC_add hz1 (by omega) _ _ _
      · rw [rAdd_eq hz1 (by omega)]
        refine ⟨by omega, c2, upd_at .., Or.inl ⟨?_, upd_at .., v', by omega, upd_at .., r3⟩⟩
        rw [← (show msgF pg np a = pg a from if_pos hlt)]
        cases q : inR (msgF pg np a) (nI 48) (nI 57) with
        | true => rfl
        | false => rw [pqD, q] at c2; exact absurd c2 (Nat.lt_irrefl _)
    · have hT : pqT pg np il a = (a, false) := by unfold pqT; rw [if_neg c2, if_neg c]
      have e : pqD pg np 6 a = a := by omega
      rw [hT, e]
      refine ⟨decide_eq_false (show ¬ 0 < a - a by omega), rfl, fun q => by cases q⟩
theorem sumL_eq (h : PG T pg np) {il : Bool} : ∀ (n b i : Nat) (x : RS), x.1 = nI b → b ≤ np → x.2.2.1 = nI i → i ≤ b →
    (rSumL T np il n x).1 = (pqL pg np il n b).2 ∧ (rSumL T np il n x).2.1 = nI (pqL pg np il n b).1 ∧
    ((pqL pg np il n b).2 = true → ∃ i', (rSumL T np il n x).2.2.1 = x.2.1 ∧ (rSumL T np il n x).2.2.2.1 = nI i' ∧ i' + b ≤ (pqL pg np il n b).1 + i ∧ AgC i x (rSumL T np il n x).2 ∧ TlC (rSumL T np il n x).2.2.2.2.1 (rSumL T np il n x).2.2.2.2.2.1 (rSumL T np il n x).2.2.2.2.2.2 pg il n i b i' (pqL pg np il n b).1) := by
  have hnp := h.1
  intro n
  induction n with
  | zero => intro b i x hx hb hz hi; exact ⟨rfl, hx, fun _ => ⟨i, rfl, hz, by rw [pqL]; omega, AgC_rf, rfl, rfl⟩⟩
  | succ n ih =>
    intro b i x hx hb hz hi
    have e43 := sg_eq h (a := b) (k := 43) (by omega) (by decide) (by decide)
    have e45 := sg_eq h (a := b) (k := 45) (by omega) (by decide) (by decide)
    rw [rSumL, pqL]
    by_cases c : msgF pg np b = nI 43
    · have hlt := msg_lt c (by decide)
      have hs : rSkip T np (nI 43) x = (true, rUp x) := by unfold rSkip; rw [hx, if_pos (e43.mpr c)]
      rw [hs, if_pos rfl, if_pos (Or.inl c)]
      have hx1 : (rUp x).1 = nI (b + 1) := by show x.1 + nI 1 = _; rw [hx, nI_add]
      obtain ⟨t1, t2, t3⟩ := term_eq h (il := il) (d := 2) (a := b + 1) (i := i) (x := rUp x) hx1 (by omega) hz (by omega)
      rw [t1]
      by_cases c2 : (pqT pg np il (b + 1)).2 = true
      · obtain ⟨g1, g2, g3, g4, g5, g6⟩ := t3 c2
        have hle := pqT_le (pg := pg) (np := np) (il := il) (b + 1)
        have hb1 := g6.2.1
        rw [if_pos c2, if_pos c2]
        obtain ⟨u1, u2, u3⟩ := ih (pqT pg np il (b + 1)).1 (i + 1) _ t2 (hle.2 (by omega)) g4 (by omega)
        refine ⟨u1, u2, fun q => ?_⟩
        obtain ⟨i', w1, w2, w3, w4, w5⟩ := u3 q
        exact ⟨i', w1.trans g3, w2, by omega, AgC_tr g5 w4 (by omega), Or.inr (Or.inl ⟨(msg_v hlt).mp c, _, TmC_K g6 (w4 i (Nat.lt_succ_self _)) (fun _ _ _ => rfl), w5⟩)⟩
      · rw [if_neg c2, if_neg c2]
        exact ⟨rfl, t2, fun q => by cases q⟩
    · have hs : rSkip T np (nI 43) x = (false, x) := by unfold rSkip; rw [hx, if_neg (fun q => c (e43.mp q))]
      rw [hs, if_neg (show ¬ ((false, x) : Bool × RS).1 = true from Bool.false_ne_true)]
      by_cases c3 : msgF pg np b = nI 45
      · have hlt := msg_lt c3 (by decide)
        have hs2 : rSkip T np (nI 45) x = (true, rUp x) := by unfold rSkip; rw [hx, if_pos (e45.mpr c3)]
        rw [hs2, if_pos rfl, if_pos (Or.inr c3)]
        have hx1 : (rUp x).1 = nI (b + 1) := by show x.1 + nI 1 = _; rw [hx, nI_add]
        obtain ⟨t1, t2, t3⟩ := term_eq h (il := il) (d := 3) (a := b + 1) (i := i) (x := rUp x) hx1 (by omega) hz (by omega)
        rw [t1]
        by_cases c2 : (pqT pg np il (b + 1)).2 = true
        · obtain ⟨g1, g2, g3, g4, g5, g6⟩ := t3 c2
          have hle := pqT_le (pg := pg) (np := np) (il := il) (b + 1)
          have hb1 := g6.2.1
          rw [if_pos c2, if_pos c2]
          obtain ⟨u1, u2, u3⟩ := ih (pqT pg np il (b + 1)).1 (i + 1) _ t2 (hle.2 (by omega)) g4 (by omega)
          refine ⟨u1, u2, fun q => ?_⟩
          obtain ⟨i', w1, w2, w3, w4, w5⟩ := u3 q
          exact ⟨i', w1.trans g3, w2, by omega, AgC_tr g5 w4 (by omega), Or.inr (Or.inr ⟨(msg_v hlt).mp c3, _, TmC_K g6 (w4 i (Nat.lt_succ_self _)) (fun _ _ _ => rfl), w5⟩)⟩
        · rw [if_neg c2, if_neg c2]
          exact ⟨rfl, t2, fun q => by cases q⟩
      · have hs2 : rSkip T np (nI 45) x = (false, x) := by unfold rSkip; rw [hx, if_neg (fun q => c3 (e45.mp q))]
        rw [hs2, if_neg (show ¬ ((false, x) : Bool × RS).1 = true from Bool.false_ne_true), if_neg (fun q => q.elim c c3)]
        exact ⟨rfl, hx, fun _ => ⟨i, rfl, hz, by show i + b ≤ b + i; omega, AgC_rf, Or.inl ⟨rfl, rfl⟩⟩⟩
theorem sum_eq (h : PG T pg np) {il : Bool} {a i : Nat} {x : RS} (hx : x.1 = nI a) (ha : a ≤ np) (hz : x.2.2.1 = nI i) (hi : i ≤ a) :
    (rSum T np il x).1 = (pqS pg np il a).2 ∧ (rSum T np il x).2.1 = nI (pqS pg np il a).1 ∧
    ((pqS pg np il a).2 = true → ∃ i', (rSum T np il x).2.2.1 = x.2.1 ∧ (rSum T np il x).2.2.2.1 = nI i' ∧ i' + a ≤ (pqS pg np il a).1 + i ∧ AgC i x (rSum T np il x).2 ∧ SmC (rSum T np il x).2.2.2.2.1 (rSum T np il x).2.2.2.2.2.1 (rSum T np il x).2.2.2.2.2.2 pg il i a i' (pqS pg np il a).1) := by
  obtain ⟨t1, t2, t3⟩ := term_eq h (il := il) (d := 2) hx ha hz hi
  unfold rSum pqS
  rw [t1]
  by_cases c2 : (pqT pg np il a).2 = true
  · obtain ⟨g1, g2, g3, g4, g5, g6⟩ := t3 c2
    have hle := pqT_le (pg := pg) (np := np) (il := il) a
    have hb1 := g6.2.1
    rw [if_pos c2, if_pos c2]
    obtain ⟨u1, u2, u3⟩ := sumL_eq h (il := il) 160 (pqT pg np il a).1 (i + 1) _ t2 (hle.2 (by omega)) g4 (by omega)
    refine ⟨u1, u2, fun q => ?_⟩
    obtain ⟨i', w1, w2, w3, w4, w5⟩ := u3 q
    exact ⟨i', w1.trans g3, w2, by omega, AgC_tr g5 w4 (by omega), _, _, TmC_K g6 (w4 i (Nat.lt_succ_self _)) (fun _ _ _ => rfl), w5⟩
  · rw [if_neg c2, if_neg c2]
    exact ⟨rfl, t2, fun q => by cases q⟩
end RT
