/-! ===== what a template answers ===== -/
section RD
variable {T pg : Nat → Int32} {np bs : Nat}
/-- what is open began on the page -/
def SInv (np : Nat) : SK → Prop
  | [] => True
  | s :: S => s.2.1 < np ∧ (∀ j, s.2.2 = some j → j < np) ∧ SInv np S
def AgO (bs np : Nat) (mk bo ot mk' bo' ot' : Nat → Int32) : Prop := ∀ p, (p < bs ∨ bs + np ≤ p) → mk' p = mk p ∧ bo' p = bo p ∧ ot' p = ot p
theorem AgO_rf {mk bo ot : Nat → Int32} : AgO bs np mk bo ot mk bo ot := fun _ _ => ⟨rfl, rfl, rfl⟩
theorem AgO_tr {mk bo ot mk1 bo1 ot1 mk2 bo2 ot2 : Nat → Int32} (h1 : AgO bs np mk bo ot mk1 bo1 ot1) (h2 : AgO bs np mk1 bo1 ot1 mk2 bo2 ot2) : AgO bs np mk bo ot mk2 bo2 ot2 := fun p hp => by
  obtain ⟨x1, x2, x3⟩ := h1 p hp
  obtain ⟨y1, y2, y3⟩ := h2 p hp
  exact ⟨y1.trans x1, y2.trans x2, y3.trans x3⟩
/-- one step: stack, count, marks -/
def StK (bs np : Nat) (x y : PM) : Prop := SInv np y.2.2.1 ∧ (y.2.2.2.1 = x.2.2.2.1 ∨ y.2.2.2.1 = x.2.2.2.1 + nI 1) ∧ AgO bs np x.2.2.2.2.1 x.2.2.2.2.2.1 x.2.2.2.2.2.2 y.2.2.2.2.1 y.2.2.2.2.2.1 y.2.2.2.2.2.2
theorem m1 {a : Nat} (ha : a < np) {mk bo ot : Nat → Int32} (v : Int32) : AgO bs np mk bo ot (upd mk (bs + a) v) bo ot := fun p hp => ⟨upd_ne _ _ (by omega), rfl, rfl⟩
theorem m2 {a : Nat} (ha : a < np) {mk bo ot : Nat → Int32} (v w : Int32) : AgO bs np mk bo ot (upd (upd mk (bs + a) v) (bs + a) w) bo ot := fun p hp => ⟨by rw [upd_ne _ _ (by omega), upd_ne _ _ (by omega)], rfl, rfl⟩
theorem m3 {a : Nat} (ha : a < np) {mk bo ot : Nat → Int32} (v w : Int32) : AgO bs np mk bo ot (upd mk (bs + a) v) (upd bo (bs + a) w) ot := fun p hp => ⟨upd_ne _ _ (by omega), upd_ne _ _ (by omega), rfl⟩
theorem m4 {a b : Nat} (ha : a < np) (hb : b < np) {mk bo ot : Nat → Int32} (v w : Int32) (mo : Option Nat) (hm : ∀ j, mo = some j → j < np) : AgO bs np mk bo ot (upd (upd mk (bs + a) v) (bs + a) w) bo (pqO bs b a mo ot) := fun p hp => by
  refine ⟨by rw [upd_ne _ _ (by omega), upd_ne _ _ (by omega)], rfl, ?_⟩
  cases mo with
  | none => exact upd_ne _ _ (by omega)
  | some j => have hj := hm j rfl; exact (upd_ne _ _ (by omega)).trans (upd_ne _ _ (by omega))
theorem pqStep_K {x : PM} (ha : x.1 < np) (hS : SInv np x.2.2.1) : StK bs np x (pqStep pg np bs x) := by
  obtain ⟨a, f, S, q, mk, bo, ot⟩ := x
  change a < np at ha
  change SInv np S at hS
  by_cases c : pg a = nI 123
  · rw [pqStep_br _ _ _ c]
    split
    · exact ⟨⟨ha, fun j e => (by cases e), hS⟩, Or.inr rfl, m3 ha _ _⟩
    · split
      · split
        · exact ⟨⟨ha, fun j e => (by cases e), hS⟩, Or.inr rfl, m3 ha _ _⟩
        · exact ⟨hS, Or.inl rfl, m3 ha _ _⟩
      · split
        · exact ⟨hS, Or.inr rfl, m1 ha _⟩
        · exact ⟨hS, Or.inl rfl, m1 ha _⟩
  · rcases S with _ | ⟨⟨b, b0, mo⟩, S⟩
    · rw [pqStep_nil _ _ _ c]
      split
      · exact ⟨hS, Or.inl rfl, m1 ha _⟩
      · exact ⟨hS, Or.inl rfl, m1 ha _⟩
    · obtain ⟨s1, s2, s3⟩ := hS
      cases b with
      | true =>
        rw [pqStep_t _ _ _ c]
        split
        · exact ⟨⟨s1, s2, s3⟩, Or.inl rfl, m1 ha _⟩
        · split
          · exact ⟨s3, Or.inl rfl, m2 ha _ _⟩
          · exact ⟨⟨s1, s2, s3⟩, Or.inl rfl, m1 ha _⟩
      | false =>
        cases mo with
        | none =>
          rw [pqStep_n _ _ _ c]
          split
          · exact ⟨s3, Or.inl rfl, m4 ha s1 _ _ none s2⟩
          · split
            · exact ⟨⟨s1, fun j e => by cases e; exact ha, s3⟩, Or.inl rfl, m2 ha _ _⟩
            · exact ⟨⟨s1, s2, s3⟩, Or.inl rfl, m1 ha _⟩
        | some j =>
          rw [pqStep_s _ _ _ c]
          split
          · exact ⟨s3, Or.inl rfl, m4 ha s1 _ _ (some j) s2⟩
          · split
            · exact ⟨⟨s1, s2, s3⟩, Or.inl rfl, m1 ha _⟩
            · exact ⟨⟨s1, s2, s3⟩, Or.inl rfl, m1 ha _⟩
theorem pqRun_K : ∀ (n : Nat) (x : PM), SInv np x.2.2.1 → AgO bs np x.2.2.2.2.1 x.2.2.2.2.2.1 x.2.2.2.2.2.2 (pqRun pg np bs n x).2.2.2.2.1 (pqRun pg np bs n x).2.2.2.2.2.1 (pqRun pg np bs n x).2.2.2.2.2.2 := by
  intro n
  induction n with
  | zero => intro x _; exact AgO_rf
  | succ n ih =>
    intro x hS
    rw [pqRun]
    split
    · next q => obtain ⟨h1, _, h3⟩ := pqStep_K (pg := pg) (bs := bs) q.1 hS; exact AgO_tr h3 (ih _ h1)
    · exact AgO_rf
theorem pqRd_K (mk bo ot : Nat → Int32) : AgO bs np mk bo ot (pqRd pg np bs mk bo ot).2.2.2.2.1 (pqRd pg np bs mk bo ot).2.2.2.2.2.1 (pqRd pg np bs mk bo ot).2.2.2.2.2.2 := by
  have h := pqRun_K (pg := pg) (np := np) (bs := bs) 400 (0, none, [], nI 0, mk, bo, ot) True.intro
  unfold pqRd pqFin
  split
  · exact h
  · exact h
theorem PR_q : ∀ {m : Nat} {x y : PM}, PR pg np bs m x y → SInv np x.2.2.1 → ∃ t, t ≤ m ∧ y.2.2.2.1 = x.2.2.2.1 + nI t := by
  intro m
  induction m with
  | zero => intro x y h _; obtain rfl : x = y := h; exact ⟨0, Nat.le_refl _, (i_add0 _).symm⟩
  | succ m ih =>
    intro x y h hS
    obtain ⟨⟨h1, _⟩, h2⟩ := h
    obtain ⟨k1, k2, _⟩ := pqStep_K (pg := pg) (bs := bs) h1 hS
    obtain ⟨t, t1, t2⟩ := ih h2 k1
    rcases k2 with k2 | k2
    · exact ⟨t, by omega, by rw [t2, k2]⟩
    · exact ⟨t + 1, by omega, by rw [t2, k2, Int32.add_assoc, nI_add, Nat.add_comm 1 t]⟩
/-- what comes of reading a page -/
theorem read_eq (h : PG T pg np) (x : RS) (hx : x.1 = nI 0) (hq : x.2.1 = nI 0) (hz : x.2.2.1 = nI 0) (mk bo ot : Nat → Int32) :
    (∃ f, (pqRd pg np bs mk bo ot).2.1 = some f ∧ rpA np (rParts T np 5 false false x) = (-1) - nI f ∧ f ≤ np + 1) ∨
    ((pqRd pg np bs mk bo ot).2.1 = none ∧ rpA np (rParts T np 5 false false x) = (pqRd pg np bs mk bo ot).2.2.2.1 ∧ (∃ q, q ≤ np ∧ (pqRd pg np bs mk bo ot).2.2.2.1 = nI q) ∧
      ∃ i' n, i' ≤ np ∧ (rParts T np 5 false false x).2.2.2.1 = nI i' ∧ Seg (rParts T np 5 false false x).2.2.2.2.1 (rParts T np 5 false false x).2.2.2.2.2.1 (rParts T np 5 false false x).2.2.2.2.2.2 pg (fun p => (pqRd pg np bs mk bo ot).2.2.2.2.1 (bs + p)) (fun p => (pqRd pg np bs mk bo ot).2.2.2.2.2.1 (bs + p)) (fun p => (pqRd pg np bs mk bo ot).2.2.2.2.2.2 (bs + p)) n false 0 0 i' np) := by
  have hnp := h.1
  have hr := parts_eq (bs := bs) h 5 false false [] rfl rfl rfl x 0 0 mk bo ot hx hz (Nat.le_refl _) (Nat.zero_le _)
  obtain ⟨r, er⟩ : ∃ r, r = rParts T np 5 false false x := ⟨_, rfl⟩
  rw [← er] at hr ⊢
  rcases hr with ⟨g1, a', i', mk', bo', ot', n, ⟨o1, o2, o3, o4, o5, o6, o7, o8, m, o9, o10⟩, g3, g4⟩ | ⟨g1, f, g2, g0, m, y, g3, g4, g5⟩
  · rw [hq] at o10
    obtain ⟨t, t1, t2⟩ := PR_q o10 True.intro
    have t3 : r.2.2.1 = nI t := t2.trans (i_0add _)
    have e0 : pqRun pg np bs 400 (0, none, [], nI 0, mk, bo, ot) = pqRun pg np bs (400 - m) (a', none, [], r.2.2.1, mk', bo', ot') := by
      have := PR_run (400 - m) o10
      rwa [show m + (400 - m) = 400 by omega] at this
    have bad : ∀ f, pg a' = nI f → f = 124 ∨ f = 125 → a' < np → (∃ f, (pqRd pg np bs mk bo ot).2.1 = some f ∧ rpA np r = (-1) - nI f ∧ f ≤ np + 1) := fun f hf hf2 hlt => by
      refine ⟨a', ?_, ?_, by omega⟩
      · unfold pqRd
        rw [e0, show 400 - m = (400 - m - 1) + 1 by omega, pqRun_go _ _ _ ⟨hlt, rfl⟩, pqStep_nil _ _ _ (by rw [hf]; rcases hf2 with rfl | rfl <;> decide), if_pos (by rw [hf]; rcases hf2 with rfl | rfl <;> decide), pqRun_stop _ _ _ (fun q => by cases q.2)]
        rfl
      · unfold rpA
        rw [if_neg (fun q => absurd ((nI_eq (by omega) (by omega)).mp (o1.symm.trans q.2)) (by omega)), o1]
    rcases (stop_iff h o1 o4).mp g3 with q | q | q | ⟨q, _⟩
    · obtain rfl : a' = np := by omega
      have e1 : pqRd pg a' bs mk bo ot = (a', none, [], r.2.2.1, mk', bo', ot') := by
        unfold pqRd
        rw [e0, pqRun_stop pg a' bs (x := (a', none, [], r.2.2.1, mk', bo', ot')) (fun q => absurd q.1 (Nat.lt_irrefl _))]; rfl
      rw [e1]
      refine Or.inr ⟨rfl, ?_, ⟨t, by omega, t3⟩, i', n, by omega, o2, g4⟩
      unfold rpA
      rw [if_pos ⟨g1, o1⟩]
    · have hlt := msg_lt q (by decide)
      exact Or.inl (bad 124 ((msg_v hlt).mp q) (Or.inl rfl) hlt)
    · have hlt := msg_lt q (by decide)
      exact Or.inl (bad 125 ((msg_v hlt).mp q) (Or.inr rfl) hlt)
    · cases q
  · rw [hq] at g4
    have e0 : pqRun pg np bs 400 (0, none, [], nI 0, mk, bo, ot) = pqRun pg np bs (400 - m) y := by
      have := PR_run (400 - m) g4
      rwa [show m + (400 - m) = 400 by omega] at this
    refine Or.inl ⟨f, ?_, ?_, g0⟩
    · unfold pqRd
      rw [e0]
      rcases g5 with g5 | ⟨g5, g6, g7, g8⟩
      · rw [pqRun_stop _ _ _ (fun q => by rw [g5] at q; cases q.2)]
        unfold pqFin
        rw [if_neg (fun q => by rw [g5] at q; cases q.1)]; exact g5
      · rw [pqRun_stop _ _ _ (fun q => g6 q.1)]
        unfold pqFin
        rw [if_pos ⟨g5, g8⟩, g7]
    · unfold rpA
      rw [if_neg (fun q => by rw [g1] at q; cases q.1), g2]
end RD
