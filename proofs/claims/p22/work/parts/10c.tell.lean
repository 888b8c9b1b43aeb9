/-! ===== the law's telling: the best of the tellings, from behind ===== -/
def oI : Option Nat → Int32 := fun o => match o with | none => -1 | some j => nI j
/-- the telling of a day among the first i, as the class's rows have it -/
def knO (pl kn fr : Nat → Int32) (place kind day : Int32) : Nat → Option Nat
  | 0 => none
  | i + 1 => if pl i = place ∧ kn i = kind ∧ fr i ≤ day ∧ (knF pl kn fr place kind day i).2 ≤ fr i then some i else knO pl kn fr place kind day i
abbrev knoS (st : XS) (n : Nat) (place kind day : Int32) : Option Nat := knO (ga st 13) (ga st 14) (ga st 16) place kind day n
theorem knO_e (pl kn fr : Nat → Int32) (p k d : Int32) : ∀ i, (knF pl kn fr p k d i).1 = oI (knO pl kn fr p k d i) := by
  intro i
  induction i with
  | zero => rfl
  | succ i ih =>
    rw [knF, knO]
    split
    · rfl
    · exact ih
theorem knS_o (st : XS) (n : Nat) (p k d : Int32) : knS st n p k d = oI (knoS st n p k d) := knO_e ..
theorem knO_lt (pl kn fr : Nat → Int32) (p k d : Int32) : ∀ i j, knO pl kn fr p k d i = some j → j < i := by
  intro i
  induction i with
  | zero => intro j h; cases h
  | succ i ih =>
    intro j h
    rw [knO] at h
    split at h
    · cases h; omega
    · have := ih j h; omega
/-- a telling that can be it -/
def vld (T : Nat → Int32) (p k d : Int32) (i : Nat) : Prop := T (4 * i) = p ∧ T (4 * i + 1) = k ∧ T (4 * i + 3) ≤ d
/-- the best of the tellings a to n - 1 -/
def isB (T : Nat → Int32) (p k d : Int32) (a n : Nat) : Option Nat → Prop
  | none => ∀ i, a ≤ i → i < n → ¬ vld T p k d i
  | some j => a ≤ j ∧ j < n ∧ vld T p k d j ∧ ∀ i, a ≤ i → i < n → vld T p k d i → T (4 * i + 3) ≤ T (4 * j + 3) ∧ (T (4 * i + 3) = T (4 * j + 3) → i ≤ j)
theorem isB_one {T : Nat → Int32} {p k d : Int32} {a n : Nat} {o o' : Option Nat} (h : isB T p k d a n o) (h' : isB T p k d a n o') : o = o' := by
  rcases o with _ | j <;> rcases o' with _ | j'
  · rfl
  · exact absurd h'.2.2.1 (h j' h'.1 h'.2.1)
  · exact absurd h.2.2.1 (h' j h.1 h.2.1)
  · obtain ⟨a1, a2, a3, a4⟩ := h
    obtain ⟨b1, b2, b3, b4⟩ := h'
    have c1 := a4 j' b1 b2 b3
    have c2 := b4 j a1 a2 a3
    have e : T (4 * j + 3) = T (4 * j' + 3) := by
      have q1 := Int32.le_iff_toInt_le.mp c1.1
      have q2 := Int32.le_iff_toInt_le.mp c2.1
      exact Int32.toInt_inj.mp (by omega)
    have d1 := c1.2 e.symm
    have d2 := c2.2 e
    rw [show j = j' by omega]
/-- the law's tellings are the class's -/
def RtL (T pl kn hu fr : Nat → Int32) (n : Nat) : Prop := ∀ i, i < n → T (4 * i) = pl i ∧ T (4 * i + 1) = kn i ∧ T (4 * i + 2) = hu i ∧ T (4 * i + 3) = fr i ∧ (∃ h, h ≤ 100 ∧ hu i = nI h) ∧ ∃ d, d ≤ 9999 ∧ fr i = nI d
theorem knO_isB {T pl kn hu fr : Nat → Int32} {p k d : Int32} : ∀ n, RtL T pl kn hu fr n → isB T p k d 0 n (knO pl kn fr p k d n) ∧ (knF pl kn fr p k d n).2 = (match knO pl kn fr p k d n with | none => -1 | some j => fr j) := by
  intro n
  induction n with
  | zero => intro _; exact ⟨fun i _ hi => absurd hi (by omega), rfl⟩
  | succ n ih =>
    intro hR
    obtain ⟨h1, h2⟩ := ih (fun i hi => hR i (by omega))
    obtain ⟨r1, r2, r3, r4, _, d9, r5, r6⟩ := hR n (by omega)
    have hv : vld T p k d n ↔ pl n = p ∧ kn n = k ∧ fr n ≤ d := by unfold vld; rw [r1, r2, r4]
    by_cases hc : pl n = p ∧ kn n = k ∧ fr n ≤ d
    · rcases ho : knO pl kn fr p k d n with _ | j
      · rw [ho] at h1 h2
        have hle : (knF pl kn fr p k d n).2 ≤ fr n := by
          rw [h2]; show (-1 : Int32) ≤ _
          rw [r6, Int32.le_iff_toInt_le, nI_toInt (by omega)]; show (-1 : Int) ≤ (d9 : Int); omega
        rw [knO, if_pos ⟨hc.1, hc.2.1, hc.2.2, hle⟩, knF_y ⟨hc.1, hc.2.1, hc.2.2, hle⟩]
        refine ⟨⟨by omega, by omega, hv.mpr hc, fun i _ hi hvi => ?_⟩, rfl⟩
        by_cases e : i = n
        · subst e; exact ⟨Int32.le_iff_toInt_le.mpr (Int.le_refl _), fun _ => Nat.le_refl _⟩
        · exact absurd hvi (h1 i (by omega) (by omega))
      · rw [ho] at h1 h2
        obtain ⟨b1, b2, b3, b4⟩ := h1
        have rj := (hR j (by omega)).2.2.2.1
        by_cases hle : (knF pl kn fr p k d n).2 ≤ fr n
        · rw [knO, if_pos ⟨hc.1, hc.2.1, hc.2.2, hle⟩, knF_y ⟨hc.1, hc.2.1, hc.2.2, hle⟩]
          refine ⟨⟨by omega, by omega, hv.mpr hc, fun i _ hi hvi => ?_⟩, rfl⟩
          by_cases e : i = n
          · subst e; exact ⟨Int32.le_iff_toInt_le.mpr (Int.le_refl _), fun _ => Nat.le_refl _⟩
          · have c1 := (b4 i (by omega) (by omega) hvi).1
            refine ⟨?_, fun _ => by omega⟩
            rw [h2] at hle
            rw [rj] at c1; rw [r4]
            exact Int32.le_iff_toInt_le.mpr (Int.le_trans (Int32.le_iff_toInt_le.mp c1) (Int32.le_iff_toInt_le.mp hle))
        · rw [knO, if_neg (fun q => hle q.2.2.2), knF_n (fun q => hle q.2.2.2), ho]
          refine ⟨⟨b1, by omega, b3, fun i _ hi hvi => ?_⟩, h2⟩
          by_cases e : i = n
          · subst e
            have hlt := i32_nle hle
            rw [h2] at hlt
            have q1 : (fr i).toInt < (fr j).toInt := Int32.lt_iff_toInt_lt.mp hlt
            rw [r4, rj]
            exact ⟨Int32.le_iff_toInt_le.mpr (by omega), fun q => by rw [q] at q1; omega⟩
          · exact b4 i (by omega) (by omega) hvi
    · rw [knO, if_neg (fun q => hc ⟨q.1, q.2.1, q.2.2.1⟩), knF_n (fun q => hc ⟨q.1, q.2.1, q.2.2.1⟩)]
      refine ⟨?_, h2⟩
      have hnv : ¬ vld T p k d n := fun q => hc (hv.mp q)
      rcases ho : knO pl kn fr p k d n with _ | j
      · rw [ho] at h1
        intro i _ hi hvi
        by_cases e : i = n
        · exact hnv (e ▸ hvi)
        · exact h1 i (by omega) (by omega) hvi
      · rw [ho] at h1
        obtain ⟨b1, b2, b3, b4⟩ := h1
        refine ⟨b1, by omega, b3, fun i _ hi hvi => ?_⟩
        by_cases e : i = n
        · exact absurd (e ▸ hvi) hnv
        · exact b4 i (by omega) (by omega) hvi
/-- one step of the law's search, from behind -/
theorem isB_skip {T : Nat → Int32} {p k d : Int32} {j n : Nat} {o : Option Nat} (h : isB T p k d (j + 1) n o) (hv : ¬ vld T p k d j) : isB T p k d j n o := by
  rcases o with _ | q
  · intro i h1 h2 hvi
    by_cases e : i = j
    · exact hv (e ▸ hvi)
    · exact h i (by omega) h2 hvi
  · obtain ⟨b1, b2, b3, b4⟩ := h
    refine ⟨by omega, b2, b3, fun i h1 h2 hvi => ?_⟩
    by_cases e : i = j
    · exact absurd (e ▸ hvi) hv
    · exact b4 i (by omega) h2 hvi
theorem isB_first {T : Nat → Int32} {p k d : Int32} {j n : Nat} (hj : j < n) (h : isB T p k d (j + 1) n none) (hv : vld T p k d j) : isB T p k d j n (some j) := by
  refine ⟨Nat.le_refl _, hj, hv, fun i h1 h2 hvi => ?_⟩
  by_cases e : i = j
  · subst e; exact ⟨Int32.le_iff_toInt_le.mpr (Int.le_refl _), fun _ => Nat.le_refl _⟩
  · exact absurd hvi (h i (by omega) h2)
theorem isB_more {T : Nat → Int32} {p k d : Int32} {j n q : Nat} (hj : j < n) (h : isB T p k d (j + 1) n (some q)) (hv : vld T p k d j) (hg : ¬ T (4 * j + 3) ≤ T (4 * q + 3)) : isB T p k d j n (some j) := by
  obtain ⟨b1, b2, b3, b4⟩ := h
  have hlt := Int32.lt_iff_toInt_lt.mp (i32_nle hg)
  refine ⟨Nat.le_refl _, hj, hv, fun i h1 h2 hvi => ?_⟩
  by_cases e : i = j
  · subst e; exact ⟨Int32.le_iff_toInt_le.mpr (Int.le_refl _), fun _ => Nat.le_refl _⟩
  · have c := Int32.le_iff_toInt_le.mp (b4 i (by omega) h2 hvi).1
    exact ⟨Int32.le_iff_toInt_le.mpr (by omega), fun z => by rw [z] at c; omega⟩
theorem isB_less {T : Nat → Int32} {p k d : Int32} {j n q : Nat} (h : isB T p k d (j + 1) n (some q)) (hg : T (4 * j + 3) ≤ T (4 * q + 3)) : isB T p k d j n (some q) := by
  obtain ⟨b1, b2, b3, b4⟩ := h
  refine ⟨by omega, b2, b3, fun i h1 h2 hvi => ?_⟩
  by_cases e : i = j
  · subst e; exact ⟨hg, fun _ => by omega⟩
  · exact b4 i (by omega) h2 hvi
/-! ===== the law's taxes ===== -/
def rtO (T : Nat → Int32) : Option Nat → Int32 := fun o => match o with | none => nI 0 | some j => T (4 * j + 2)
def ltL (f : Nat → Int32) : Nat → Int32
  | 0 => nI 0
  | k + 1 => ltL f k + hun (f k)
def ltA (f : Nat → Int32) : Nat → Int32
  | 0 => nI 0
  | k + 1 => ltA f k + f k
def ltK (f : Nat → Int32) (kn : Nat → Nat) : Nat → (Nat → Int32)
  | 0 => fun _ => 0
  | k + 1 => upd (ltK f kn k) (kn k) (ltK f kn k (kn k) + f k)
def ltB (g : Nat → Int32) : Nat → Int32
  | 0 => nI 0
  | k + 1 => ltB g k + hun (g k)
def ltx (w : Int32) (f : Nat → Int32) (kn : Nat → Nat) (n : Nat) : Int32 := if w = nI 0 then ltL f n else if w = nI 2 then hun (ltA f n) else ltB (ltK f kn n) 4
/-- what a line comes to, times its rate -/
def itsF (Lr T : Nat → Int32) (i : Nat) (o : Nat → Option Nat) (k : Nat) : Int32 := Lr (9 * i + 3 * k + 1) * Lr (9 * i + 3 * k + 2) * rtO T (o k)
/-- the row of tellings of an invoice's lines -/
def nwR (o : Nat → Option Nat) : Nat → (Nat → Int32)
  | 0 => fun _ => 0
  | k + 1 => upd (nwR o k) k (oI (o k))
theorem nwR_at {o : Nat → Option Nat} {k : Nat} : ∀ {n}, k < n → nwR o n k = oI (o k) := by
  intro n
  induction n with
  | zero => intro h; omega
  | succ n ih =>
    intro h
    rw [nwR]
    by_cases e : k = n
    · subst e; exact if_pos rfl
    · exact (if_neg e).trans (ih (by omega))
