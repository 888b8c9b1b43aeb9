/-! ===== reading: the reference's machine ===== -/
section PR
variable (pg : Nat → Int32) (np bs : Nat)
def PR : Nat → PM → PM → Prop
  | 0, x, y => x = y
  | m + 1, x, y => (x.1 < np ∧ x.2.1 = none) ∧ PR m (pqStep pg np bs x) y
end PR
section PRL
variable {pg : Nat → Int32} {np bs : Nat}
theorem PR_tr : ∀ {k m : Nat} {x y w : PM}, PR pg np bs k x y → PR pg np bs m y w → PR pg np bs (k + m) x w := by
  intro k
  induction k with
  | zero => intro m x y w h g; obtain rfl : x = y := h; rw [Nat.zero_add]; exact g
  | succ k ih => intro m x y w h g; rw [Nat.succ_add]; exact ⟨h.1, ih h.2 g⟩
theorem PR_1 {x y : PM} (h : x.1 < np) (hf : x.2.1 = none) (e : pqStep pg np bs x = y) : PR pg np bs 1 x y := ⟨⟨h, hf⟩, e⟩
theorem PR_run : ∀ {k : Nat} (m : Nat) {x y : PM}, PR pg np bs k x y → pqRun pg np bs (k + m) x = pqRun pg np bs m y := by
  intro k
  induction k with
  | zero => intro m x y h; obtain rfl : x = y := h; rw [Nat.zero_add]
  | succ k ih => intro m x y h; rw [Nat.succ_add, pqRun, if_pos h.1]; exact ih m h.2
end PRL
abbrev SK : Type := List (Bool × Nat × Option Nat)
/-- the machine comes to a fault -/
def Flt (pg : Nat → Int32) (np bs : Nat) (M : PM) (a f : Nat) : Prop := f ≤ np + 1 ∧ ∃ m y, m + a ≤ np + 1 ∧ PR pg np bs m M y ∧ (y.2.1 = some f ∨ (y.2.1 = none ∧ ¬ y.1 < np ∧ y.1 = f ∧ ¬ y.2.2.1.length = 0))
theorem Flt_st {pg : Nat → Int32} {np bs : Nat} {M M2 : PM} {m a a2 f : Nat} (h : PR pg np bs m M M2) (hm : m + a ≤ a2) (h2 : Flt pg np bs M2 a2 f) : Flt pg np bs M a f := by
  obtain ⟨h0, k, y, h3, h4, h5⟩ := h2
  exact ⟨h0, m + k, y, by omega, PR_tr h h4, h5⟩
def AgM (bs a b : Nat) (mk bo ot mk' bo' ot' : Nat → Int32) : Prop := ∀ p, (p < bs + a ∨ bs + b ≤ p) → mk' p = mk p ∧ bo' p = bo p ∧ ot' p = ot p
theorem AgM_rf {bs a b : Nat} {mk bo ot : Nat → Int32} : AgM bs a b mk bo ot mk bo ot := fun _ _ => ⟨rfl, rfl, rfl⟩
theorem AgM_tr {bs a b c d : Nat} {mk bo ot mk1 bo1 ot1 mk2 bo2 ot2 : Nat → Int32} (h1 : AgM bs a b mk bo ot mk1 bo1 ot1) (h2 : AgM bs c d mk1 bo1 ot1 mk2 bo2 ot2) (e1 : b ≤ d) (e2 : a ≤ c) : AgM bs a d mk bo ot mk2 bo2 ot2 := fun p hp => by
  obtain ⟨x1, x2, x3⟩ := h1 p (by omega)
  obtain ⟨y1, y2, y3⟩ := h2 p (by omega)
  exact ⟨y1.trans x1, y2.trans x2, y3.trans x3⟩
/-- what was read well: the class's state, and the machine's -/
def Ok9 (pg : Nat → Int32) (np bs : Nat) (S : SK) (x y : RS) (a i a' i' : Nat) (mk bo ot mk' bo' ot' : Nat → Int32) : Prop :=
  y.1 = nI a' ∧ y.2.2.1 = nI i' ∧ a ≤ a' ∧ a' ≤ np ∧ i ≤ i' ∧ i' + a ≤ a' + i ∧ AgC i x y ∧ AgM bs a a' mk bo ot mk' bo' ot' ∧ ∃ m, m + a ≤ a' ∧ PR pg np bs m (a, none, S, x.2.1, mk, bo, ot) (a', none, S, y.2.1, mk', bo', ot')
theorem Ok9_tr {pg : Nat → Int32} {np bs : Nat} {S : SK} {x y w : RS} {a i a1 i1 a2 i2 : Nat} {mk bo ot mk1 bo1 ot1 mk2 bo2 ot2 : Nat → Int32} (h : Ok9 pg np bs S x y a i a1 i1 mk bo ot mk1 bo1 ot1) (g : Ok9 pg np bs S y w a1 i1 a2 i2 mk1 bo1 ot1 mk2 bo2 ot2) : Ok9 pg np bs S x w a i a2 i2 mk bo ot mk2 bo2 ot2 := by
  obtain ⟨h1, h2, h3, h4, h5, h6, h7, h8, m, h9, h10⟩ := h
  obtain ⟨g1, g2, g3, g4, g5, g6, g7, g8, k, g9, g10⟩ := g
  exact ⟨g1, g2, by omega, g4, by omega, by omega, AgC_tr h7 g7 h5, AgM_tr h8 g8 g3 h3, m + k, by omega, PR_tr h10 g10⟩
/-- PARTs -/
def PtR (T pg : Nat → Int32) (np bs : Nat) (il ol : Bool) (S : SK) (x : RS) (r : Bool × RS) (a i : Nat) (mk bo ot : Nat → Int32) : Prop :=
  (r.1 = true ∧ ∃ a' i' mk' bo' ot' n, Ok9 pg np bs S x r.2 a i a' i' mk bo ot mk' bo' ot' ∧ rStop T np ol r.2 = true ∧ Seg r.2.2.2.2.1 r.2.2.2.2.2.1 r.2.2.2.2.2.2 pg (fun p => mk' (bs + p)) (fun p => bo' (bs + p)) (fun p => ot' (bs + p)) n il i a i' a') ∨
  (r.1 = false ∧ ∃ f, r.2.1 = nI f ∧ Flt pg np bs (a, none, S, x.2.1, mk, bo, ot) a f)
/-- what begins with a brace -/
def ItR (pg : Nat → Int32) (np bs : Nat) (il : Bool) (S : SK) (x : RS) (r : Bool × RS) (a i : Nat) (mk bo ot : Nat → Int32) : Prop :=
  (r.1 = true ∧ ∃ a' i' mk' bo' ot' n, Ok9 pg np bs S x r.2 a i a' i' mk bo ot mk' bo' ot' ∧ Itm r.2.2.2.2.1 r.2.2.2.2.2.1 r.2.2.2.2.2.2 pg (fun p => mk' (bs + p)) (fun p => bo' (bs + p)) (fun p => ot' (bs + p)) (Seg r.2.2.2.2.1 r.2.2.2.2.2.1 r.2.2.2.2.2.2 pg (fun p => mk' (bs + p)) (fun p => bo' (bs + p)) (fun p => ot' (bs + p)) n) il i a i' a') ∨
  (r.1 = false ∧ ∃ f, r.2.1 = nI f ∧ Flt pg np bs (a, none, S, x.2.1, mk, bo, ot) a f)
theorem Ag_R {i0 i1 : Nat} {y w : RS} (h : AgC i1 y w) : AgR y.2.2.2.1 y.2.2.2.2.1 y.2.2.2.2.2 w.2.2.2.1 w.2.2.2.2.1 w.2.2.2.2.2 i0 i1 := fun k _ q => h k q
theorem Ag_T {bs a b c : Nat} {X mk bo ot mk' bo' ot' : Nat → Int32} (h : AgM bs b c mk bo ot mk' bo' ot') : AgT X (fun p => mk (bs + p)) (fun p => bo (bs + p)) (fun p => ot (bs + p)) X (fun p => mk' (bs + p)) (fun p => bo' (bs + p)) (fun p => ot' (bs + p)) a b := fun p _ q => ⟨rfl, h (bs + p) (Or.inl (by omega))⟩
theorem Seg_cons {X mk1 bo1 ot1 mk2 bo2 ot2 : Nat → Int32} {bs n1 n2 : Nat} {il : Bool} {y w : RS} {i a i1 a1 i2 a2 : Nat}
    (h : Itm y.2.2.2.1 y.2.2.2.2.1 y.2.2.2.2.2 X (fun p => mk1 (bs + p)) (fun p => bo1 (bs + p)) (fun p => ot1 (bs + p)) (Seg y.2.2.2.1 y.2.2.2.2.1 y.2.2.2.2.2 X (fun p => mk1 (bs + p)) (fun p => bo1 (bs + p)) (fun p => ot1 (bs + p)) n1) il i a i1 a1) (hc : AgC i1 y w) (hm : AgM bs a1 a2 mk1 bo1 ot1 mk2 bo2 ot2)
    (g : Seg w.2.2.2.1 w.2.2.2.2.1 w.2.2.2.2.2 X (fun p => mk2 (bs + p)) (fun p => bo2 (bs + p)) (fun p => ot2 (bs + p)) n2 il i1 a1 i2 a2) : ∃ n, Seg w.2.2.2.1 w.2.2.2.2.1 w.2.2.2.2.2 X (fun p => mk2 (bs + p)) (fun p => bo2 (bs + p)) (fun p => ot2 (bs + p)) n il i a i2 a2 := by
  refine ⟨max n1 n2 + 1, Or.inr ⟨i1, a1, Itm_up (Seg_up (Nat.le_max_left n1 n2)) (Itm_K (Seg_le n1) h (Ag_R hc) (Ag_T hm) (fun il i3 a3 i4 a4 q1 q2 q3 q4 h => Seg_K n1 _ _ _ _ _ h (Ag_R (fun k hk => hc k (by omega))) (AgT_in (Ag_T (a := a) hm) q3 q4))), Seg_up (Nat.le_max_right n1 n2) _ _ _ _ _ g⟩⟩
def TopOK (ol : Bool) : SK → Prop
  | [] => ol = false
  | y :: _ => y.1 = ol
section ST
variable {T pg : Nat → Int32} {np bs : Nat}
theorem txt_step {ol : Bool} {S : SK} (hT : TopOK ol S) {a : Nat} {q : Int32} {mk bo ot : Nat → Int32} (h1 : ¬ pg a = nI 123) (h2 : ¬ pg a = nI 124) (h3 : ¬ pg a = nI 125) (h4 : ol = true → ¬ (pg a = nI 42 ∧ msgF pg np (a + 1) = nI 125)) : pqStep pg np bs (a, none, S, q, mk, bo, ot) = (a + 1, none, S, q, upd mk (bs + a) (nI 0), bo, ot) := by
  rcases S with _ | ⟨⟨b, b0, mo⟩, S⟩
  · rw [pqStep_nil _ _ _ h1, if_neg (fun q => q.elim h3 h2)]
  · cases b with
    | true => rw [pqStep_t _ _ _ h1, if_neg (fun q => q.elim h3 h2), if_neg (h4 (Eq.symm hT))]
    | false =>
      cases mo with
      | none => rw [pqStep_n _ _ _ h1, if_neg h3, if_neg h2]
      | some j => rw [pqStep_s _ _ _ h1, if_neg h3, if_neg h2]
theorem ends_iff (h : PG T pg np) {x : RS} {a : Nat} (hx : x.1 = nI a) (ha : a ≤ np) : rEnds T np x = true ↔ msgF pg np a = nI 42 ∧ msgF pg np (a + 1) = nI 125 := by
  have hnp := h.1
  unfold rEnds
  rw [hx, nI_add]
  have e1 := sg_eq h (a := a) (k := 42) (by omega) (by decide) (by decide)
  have e2 := sg_eq h (a := a + 1) (k := 125) (by omega) (by decide) (by decide)
  by_cases c : sgF T np (nI a) = nI 42
  · rw [if_pos c, decide_eq_true_eq, e2]; exact ⟨fun q => ⟨e1.mp c, q⟩, fun q => q.2⟩
  · rw [if_neg c]; exact ⟨fun q => (by cases q), fun q => absurd (e1.mpr q.1) c⟩
theorem stop_iff (h : PG T pg np) {ol : Bool} {x : RS} {a : Nat} (hx : x.1 = nI a) (ha : a ≤ np) : rStop T np ol x = true ↔ np ≤ a ∨ msgF pg np a = nI 124 ∨ msgF pg np a = nI 125 ∨ (ol = true ∧ msgF pg np a = nI 42 ∧ msgF pg np (a + 1) = nI 125) := by
  have hnp := h.1
  unfold rStop
  rw [Bool.or_eq_true, Bool.or_eq_true, Bool.or_eq_true, Bool.and_eq_true, decide_eq_true_eq, decide_eq_true_eq, decide_eq_true_eq, ends_iff h hx ha, hx, sg_0 h (by omega), sg_eq h (by omega) (by decide) (by decide), sg_eq h (by omega) (by decide) (by decide)]
  exact ⟨fun q => by rcases q with ((q | q) | q) | q; exact Or.inl q; exact Or.inr (Or.inl q); exact Or.inr (Or.inr (Or.inl q)); exact Or.inr (Or.inr (Or.inr q)), fun q => by rcases q with q | q | q | q; exact Or.inl (Or.inl (Or.inl q)); exact Or.inl (Or.inl (Or.inr q)); exact Or.inl (Or.inr q); exact Or.inr q⟩
theorem Ok9_rf {S : SK} {x : RS} {a i : Nat} {mk bo ot : Nat → Int32} (hx : x.1 = nI a) (hz : x.2.2.1 = nI i) (ha : a ≤ np) : Ok9 pg np bs S x x a i a i mk bo ot mk bo ot :=
  ⟨hx, hz, Nat.le_refl _, ha, Nat.le_refl _, by omega, AgC_rf, AgM_rf, 0, by omega, rfl⟩
theorem AgM_at {a b : Nat} {mk bo ot : Nat → Int32} (h : a < b) (v : Int32) : AgM bs a b mk bo ot (upd mk (bs + a) v) bo ot := fun p hp => ⟨upd_ne _ _ (by omega), rfl, rfl⟩
theorem parts_loop (h : PG T pg np) {il ol : Bool} {S : SK} (hT : TopOK ol S) {lp ch : RS → Bool × RS}
    (hI : ∀ x a i mk bo ot, x.1 = nI a → x.2.2.1 = nI i → i ≤ a → a < np → pg a = nI 123 → ItR pg np bs il S x (rPart T np lp ch il (rUp x)) a i mk bo ot) :
    ∀ n x a i mk bo ot, x.1 = nI a → x.2.2.1 = nI i → i ≤ a → a ≤ np → np ≤ a + n → PtR T pg np bs il ol S x (rPartsL T np lp ch il ol n x) a i mk bo ot := by
  have hnp := h.1
  have stop : ∀ x a i mk bo ot, x.1 = nI a → x.2.2.1 = nI i → a ≤ np → rStop T np ol x = true → PtR T pg np bs il ol S x (true, x) a i mk bo ot := fun x a i mk bo ot hx hz ha hs => Or.inl ⟨rfl, a, i, mk, bo, ot, 0, Ok9_rf hx hz ha, hs, rfl, rfl⟩
  intro n
  induction n with
  | zero => intro x a i mk bo ot hx hz hi ha hn; exact stop x a i mk bo ot hx hz ha ((stop_iff h hx ha).mpr (Or.inl hn))
  | succ n ih =>
    intro x a i mk bo ot hx hz hi ha hn
    rw [rPartsL]
    by_cases c : rStop T np ol x = true
    · rw [if_pos c]; exact stop x a i mk bo ot hx hz ha c
    · rw [if_neg c]
      have c' := mt (stop_iff h hx ha).mpr c
      have hlt : a < np := by
        rcases Nat.lt_or_ge a np with q | q
        · exact q
        · exact absurd (Or.inl q) c'
      have em : msgF pg np a = pg a := if_pos hlt
      have e1 := sg_eq h (a := a) (k := 123) (by omega) (by decide) (by decide)
      rw [em] at e1 c'
      have es : sgF T np (nI a) = pg a := by rw [sg_at h (by omega), if_pos hlt]
      by_cases c1 : pg a = nI 123
      · rw [if_pos (by rw [hx]; exact e1.mpr c1)]
        rcases hI x a i mk bo ot hx hz hi hlt c1 with ⟨g1, a1, i1, mk1, bo1, ot1, n1, g2, g3⟩ | ⟨g1, f, g2, g3⟩
        · rw [if_pos g1]
          have hle := Itm_le (Seg_le n1) g3
          obtain ⟨o1, o2, o3, o4, o5, o6, o7, o8, _⟩ := id g2
          rcases ih _ a1 i1 mk1 bo1 ot1 o1 o2 (by omega) o4 (by omega) with ⟨k1, a2, i2, mk2, bo2, ot2, n2, k2, k3, k4⟩ | ⟨k1, f, k2, k3⟩
          · obtain ⟨_, _, _, _, _, _, p7, p8, _⟩ := id k2
            obtain ⟨n3, w⟩ := Seg_cons g3 p7 p8 k4
            exact Or.inl ⟨k1, a2, i2, mk2, bo2, ot2, n3, Ok9_tr g2 k2, k3, w⟩
          · obtain ⟨_, _, _, _, _, _, _, _, m, m1, m2⟩ := g2
            exact Or.inr ⟨k1, f, k2, Flt_st m2 m1 k3⟩
        · rw [if_neg (by rw [g1]; exact Bool.false_ne_true)]
          exact Or.inr ⟨rfl, f, g2, g3⟩
      · rw [if_neg (by rw [hx]; exact fun q => c1 (e1.mp q))]
        have n124 : ¬ pg a = nI 124 := fun q => c' (Or.inr (Or.inl q))
        have n125 : ¬ pg a = nI 125 := fun q => c' (Or.inr (Or.inr (Or.inl q)))
        have nE : ol = true → ¬ (pg a = nI 42 ∧ msgF pg np (a + 1) = nI 125) := fun q1 q2 => c' (Or.inr (Or.inr (Or.inr ⟨q1, q2⟩)))
        have hz1 : (rUp x).2.2.1 = nI i := hz
        have hx1 : (rUp x).1 = nI (a + 1) := by show x.1 + nI 1 = _; rw [hx, nI_add]
        have hst := txt_step (np := np) (bs := bs) (q := x.2.1) (mk := mk) (bo := bo) (ot := ot) hT c1 n124 n125 nE
        obtain ⟨y, hy⟩ : ∃ y, y = rAdd (rUp x) (nI 0) (sgF T np x.1) (nI 0) := ⟨_, rfl⟩
        rw [← hy]
        have hyc : AgC i (rUp x) y := by rw [hy]; exact AgC_add hz1 (by omega) _ _ _
        have hye := rAdd_eq hz1 (show i < 160 by omega) (nI 0) (sgF T np x.1) (nI 0)
        rw [← hy] at hye
        have ok : Ok9 pg np bs S x y a i (a + 1) (i + 1) mk bo ot (upd mk (bs + a) (nI 0)) bo ot :=
          ⟨by rw [hye]; exact hx1, by rw [hye], by omega, by omega, by omega, by omega, hyc, AgM_at (Nat.lt_succ_self _) _, 1, by omega, PR_1 hlt rfl (by rw [hst, hye]; rfl)⟩
        have hit : Itm y.2.2.2.1 y.2.2.2.2.1 y.2.2.2.2.2 pg (fun p => upd mk (bs + a) (nI 0) (bs + p)) (fun p => bo (bs + p)) (fun p => ot (bs + p)) (Seg y.2.2.2.1 y.2.2.2.2.1 y.2.2.2.2.2 pg (fun p => upd mk (bs + a) (nI 0) (bs + p)) (fun p => bo (bs + p)) (fun p => ot (bs + p)) 0) il i a (i + 1) (a + 1) :=
          Or.inl ⟨c1, upd_at .., by rw [hye]; exact upd_at .., by rw [hye, hx, es]; exact upd_at .., rfl, rfl⟩
        rcases ih y (a + 1) (i + 1) (upd mk (bs + a) (nI 0)) bo ot ok.1 ok.2.1 (by omega) (by omega) (by omega) with ⟨k1, a2, i2, mk2, bo2, ot2, n2, k2, k3, k4⟩ | ⟨k1, f, k2, k3⟩
        · obtain ⟨_, _, _, _, _, _, p7, p8, _⟩ := id k2
          obtain ⟨n3, w⟩ := Seg_cons hit p7 p8 k4
          exact Or.inl ⟨k1, a2, i2, mk2, bo2, ot2, n3, Ok9_tr ok k2, k3, w⟩
        · obtain ⟨_, _, _, _, _, _, _, _, m, m1, m2⟩ := ok
          exact Or.inr ⟨k1, f, k2, Flt_st m2 m1 k3⟩
theorem sg_in (h : PG T pg np) {a : Nat} (ha : a < 1000) : inR (sgF T np (nI a)) (nI 49) (nI 57) = inR (msgF pg np a) (nI 49) (nI 57) := by
  rw [sg_at h ha, msgF]
  by_cases c : a < np
  · rw [if_pos c, if_pos c]
  · rw [if_neg c, if_neg c]; decide
theorem rWid_eq (h : PG T pg np) {z : RS} {a : Nat} (hz : z.1 = nI a) (ha : a < 1000) : rWid T np z = if inR (msgF pg np a) (nI 49) (nI 57) = true then (msgF pg np a - nI 48, rUp z) else (nI 0, z) := by
  unfold rWid
  rw [hz]
  have e := sg_in h ha
  by_cases c : inR (msgF pg np a) (nI 49) (nI 57) = true
  · have hlt := msg_dg c (by decide)
    rw [if_pos c, sg_at h ha, if_pos hlt, if_pos (by rw [← e, sg_at h ha, if_pos hlt] at c; exact of_decide_eq_true c), msgF, if_pos hlt]
  · rw [if_neg c, if_neg (fun q => c (by rw [← e]; exact decide_eq_true q))]
theorem field_it (h : PG T pg np) {il : Bool} {S : SK} (hil : ilS S = il) {x : RS} {a i : Nat} {mk bo ot : Nat → Int32} (hx : x.1 = nI a) (hz : x.2.2.1 = nI i) (hi : i ≤ a) (ha : a < np) (hb : pg a = nI 123) (n1 : ¬ (msgF pg np (a + 1) = nI 42 ∧ S.length < 5 ∧ ilS S = false)) (n2 : ¬ (msgF pg np (a + 1) = nI 63 ∧ S.length < 5)) : ItR pg np bs il S x (rField T np il (rUp x)) a i mk bo ot := by
  have hnp := h.1
  have hx1 : (rUp x).1 = nI (a + 1) := by show x.1 + nI 1 = _; rw [hx, nI_add]
  have hx2 : (rPt (rUp (rUp x))).1 = nI (a + 2) := by show x.1 + nI 1 + nI 1 = _; rw [hx, nI_add, nI_add]
  have hst := pqStep_br pg np bs (S := S) (f := none) (q := x.2.1) (mk := mk) (bo := bo) (ot := ot) hb
  rw [if_neg n1, if_neg n2, hil] at hst
  unfold rField
  rw [hx1, sg_nm h (by omega)]
  by_cases c : nmB (msgF pg np (a + 1)) il = true
  · have hlt := msg_nm c
    have es : sgF T np (nI (a + 1)) = pg (a + 1) := by rw [sg_at h (by omega), if_pos hlt]
    have em : msgF pg np (a + 1) = pg (a + 1) := if_pos hlt
    rw [if_pos c] at hst ⊢
    rw [rWid_eq h hx2 (by omega), es]
    unfold pqF at hst
    by_cases d : inR (msgF pg np (a + 2)) (nI 49) (nI 57) = true
    · have hlt2 := msg_dg d (by decide)
      obtain ⟨w, w1, w2, w3⟩ : ∃ w, 1 ≤ w ∧ w ≤ 9 ∧ msgF pg np (a + 2) = nI (48 + w) := by
        have h1 := (in_iff (by decide) (by decide)).mp d
        exact ⟨(msgF pg np (a + 2)).toInt.toNat - 48, by omega, by omega, (i_eqN (by omega)).mpr (by omega)⟩
      rw [if_pos d] at hst ⊢
      have hzz : (rUp (rPt (rUp (rUp x)))).2.2.1 = nI i := hz
      have hye := rAdd_eq hzz (show i < 160 by omega) (nI 1) (pg (a + 1)) (msgF pg np (a + 2) - nI 48)
      have hyc := AgC_add hzz (show i < 160 by omega) (nI 1) (pg (a + 1)) (msgF pg np (a + 2) - nI 48)
      show ItR pg np bs il S x (rSkip T np (nI 125) (rAdd (rUp (rPt (rUp (rUp x)))) (nI 1) (pg (a + 1)) (msgF pg np (a + 2) - nI 48))) a i mk bo ot
      obtain ⟨y, hy⟩ : ∃ y, y = rAdd (rUp (rPt (rUp (rUp x)))) (nI 1) (pg (a + 1)) (msgF pg np (a + 2) - nI 48) := ⟨_, rfl⟩
      rw [← hy] at hye hyc ⊢
      have hy1 : y.1 = nI (a + 3) := by rw [hye]; show (rPt (rUp (rUp x))).1 + nI 1 = _; rw [hx2, nI_add]
      have e3 := sg_eq h (a := a + 3) (k := 125) (by omega) (by decide) (by decide)
      unfold rSkip
      rw [hy1]
      by_cases c3 : msgF pg np (a + 3) = nI 125
      · have hlt3 := msg_lt c3 (by decide)
        rw [if_pos (e3.mpr c3)]
        refine Or.inl ⟨rfl, a + 4, i + 1, upd mk (bs + a) (nI 0), bo, ot, 0, ⟨by show y.1 + nI 1 = _; rw [hy1, nI_add], by show y.2.2.1 = _; rw [hye], by omega, by omega, by omega, by omega, hyc, AgM_at (by omega) _, 1, by omega, PR_1 ha rfl ?_⟩, Or.inr (Or.inl ⟨hb, by rw [← em]; exact c, ?_, ?_, rfl, w, by omega, ?_, Or.inr ⟨?_, rfl⟩⟩)⟩
        · rw [hst, show a + 1 + 1 + 1 = a + 3 from rfl, c3, show ((rUp y).2.1) = x.2.1 + nI 1 from by show y.2.1 = _; rw [hye]; rfl]; rfl
        · show y.2.2.2.1 i = _; rw [hye]; exact upd_at ..
        · show y.2.2.2.2.1 i = _; rw [hye]; exact upd_at ..
        · show y.2.2.2.2.2 i = _; rw [hye]; refine (upd_at ..).trans ?_; rw [w3, nI_sub (by omega)]; congr 1; omega
        · rw [← w3]; exact (if_pos hlt2).symm
      · rw [if_neg (fun q => c3 (e3.mp q))]
        refine Or.inr ⟨rfl, a + 3, hy1, by omega, 1, _, by omega, PR_1 ha rfl hst, Or.inl ?_⟩
        show (if decide (msgF pg np (a + 1 + 1 + 1) = nI 125) = true then none else some (a + 1 + 1 + 1)) = some (a + 3)
        rw [if_neg (by rw [decide_eq_true_eq]; exact c3)]
    · rw [if_neg d] at hst ⊢
      have hzz : (rPt (rUp (rUp x))).2.2.1 = nI i := hz
      have hye := rAdd_eq hzz (show i < 160 by omega) (nI 1) (pg (a + 1)) (nI 0)
      have hyc := AgC_add hzz (show i < 160 by omega) (nI 1) (pg (a + 1)) (nI 0)
      show ItR pg np bs il S x (rSkip T np (nI 125) (rAdd (rPt (rUp (rUp x))) (nI 1) (pg (a + 1)) (nI 0))) a i mk bo ot
      obtain ⟨y, hy⟩ : ∃ y, y = rAdd (rPt (rUp (rUp x))) (nI 1) (pg (a + 1)) (nI 0) := ⟨_, rfl⟩
      rw [← hy] at hye hyc ⊢
      have hy1 : y.1 = nI (a + 2) := by rw [hye]; exact hx2
      have e3 := sg_eq h (a := a + 2) (k := 125) (by omega) (by decide) (by decide)
      unfold rSkip
      rw [hy1]
      by_cases c3 : msgF pg np (a + 2) = nI 125
      · have hlt3 := msg_lt c3 (by decide)
        rw [if_pos (e3.mpr c3)]
        refine Or.inl ⟨rfl, a + 3, i + 1, upd mk (bs + a) (nI 0), bo, ot, 0, ⟨by show y.1 + nI 1 = _; rw [hy1, nI_add], by show y.2.2.1 = _; rw [hye], by omega, by omega, by omega, by omega, hyc, AgM_at (by omega) _, 1, by omega, PR_1 ha rfl ?_⟩, Or.inr (Or.inl ⟨hb, by rw [← em]; exact c, ?_, ?_, rfl, 0, by omega, ?_, Or.inl ⟨?_, rfl, rfl⟩⟩)⟩
        · rw [hst, show a + 1 + 1 = a + 2 from rfl, c3, show ((rUp y).2.1) = x.2.1 + nI 1 from by show y.2.1 = _; rw [hye]; rfl]; rfl
        · show y.2.2.2.1 i = _; rw [hye]; exact upd_at ..
        · show y.2.2.2.2.1 i = _; rw [hye]; exact upd_at ..
        · show y.2.2.2.2.2 i = _; rw [hye]; exact upd_at ..
        · rw [← c3]; exact (if_pos hlt3).symm
      · rw [if_neg (fun q => c3 (e3.mp q))]
        refine Or.inr ⟨rfl, a + 2, hy1, by omega, 1, _, by omega, PR_1 ha rfl hst, Or.inl ?_⟩
        show (if decide (msgF pg np (a + 1 + 1) = nI 125) = true then none else some (a + 1 + 1)) = some (a + 2)
        rw [if_neg (by rw [decide_eq_true_eq]; exact c3)]
  · rw [if_neg c] at hst ⊢
    exact Or.inr ⟨rfl, a + 1, hx1, by omega, 1, _, by omega, PR_1 ha rfl hst, Or.inl rfl⟩
end ST
