/-! ===== settle: both make the same notes ===== -/
def nts (r1 r2 : Nat → Int32) (b : Nat) : Nat → Int32
  | 0 => nI 0
  | k + 1 => nts r1 r2 b k + (if r1 k = nI b then r2 k else nI 0)
theorem ntS_nts (st : XS) (b : Nat) : ∀ n, ntS st b n = nts (ga st 72) (ga st 73) b n := by
  intro n
  induction n with
  | zero => rfl
  | succ n ih => rw [ntS, nts, ih]
theorem nts_c {r1 r2 q1 q2 : Nat → Int32} {b : Nat} : ∀ n, (∀ k, k < n → r1 k = q1 k ∧ r2 k = q2 k) → nts r1 r2 b n = nts q1 q2 b n := by
  intro n
  induction n with
  | zero => intro _; rfl
  | succ n ih => intro h; rw [nts, nts, ih (fun k hk => h k (by omega)), (h n (by omega)).1, (h n (by omega)).2]
section NS
variable (hh : Nat → Bool) (nl : Nat)
def NSc : Nat → Nat
  | 0 => nl
  | i + 1 => if hh i = true ∧ NSc i < 40 then NSc i + 1 else NSc i
def NSu (f g : Nat → Int32) : Nat → (Nat → Int32)
  | 0 => f
  | i + 1 => if hh i = true ∧ NSc hh nl i < 40 then upd (NSu f g i) (NSc hh nl i) (g i) else NSu f g i
variable {hh nl}
theorem NSc_le (h : nl ≤ 40) : ∀ i, nl ≤ NSc hh nl i ∧ NSc hh nl i ≤ 40 := by
  intro i
  induction i with
  | zero => exact ⟨Nat.le_refl _, h⟩
  | succ i ih => rw [NSc]; split <;> omega
theorem NSu_e {f f2 g : Nat → Int32} (h : ∀ k, k < nl → f k = f2 k) : ∀ i k, k < NSc hh nl i → NSu hh nl f g i k = NSu hh nl f2 g i k := by
  intro i
  induction i with
  | zero => intro k hk; exact h k hk
  | succ i ih =>
    intro k hk
    rw [NSc] at hk
    rw [NSu, NSu]
    by_cases c : hh i = true ∧ NSc hh nl i < 40
    · rw [if_pos c] at hk
      rw [if_pos c, if_pos c]
      by_cases e : k = NSc hh nl i
      · subst e; rw [upd_at, upd_at]
      · rw [upd_ne _ _ e, upd_ne _ _ e]; exact ih k (by omega)
    · rw [if_neg c] at hk
      rw [if_neg c, if_neg c]; exact ih k hk
theorem NSu_b {f : Nat → Int32} {nB : Nat} (h : ∀ k, k < nl → ∃ b, b < nB ∧ f k = nI b) : ∀ i, i ≤ nB → ∀ k, k < NSc hh nl i → ∃ b, b < nB ∧ NSu hh nl f (fun b => nI b) i k = nI b := by
  intro i
  induction i with
  | zero => intro _ k hk; exact h k hk
  | succ i ih =>
    intro hi k hk
    rw [NSc] at hk
    rw [NSu]
    by_cases c : hh i = true ∧ NSc hh nl i < 40
    · rw [if_pos c] at hk
      rw [if_pos c]
      by_cases e : k = NSc hh nl i
      · subst e; rw [upd_at]; exact ⟨i, hi, rfl⟩
      · rw [upd_ne _ _ e]; exact ih (by omega) k (by omega)
    · rw [if_neg c] at hk
      rw [if_neg c]; exact ih (by omega) k hk
theorem nts_NS {r1 r2 d : Nat → Int32} {b : Nat} (hb : b < 30) : ∀ i, i ≤ 30 → nts (NSu hh nl r1 (fun b => nI b) i) (NSu hh nl r2 d i) b (NSc hh nl i) = nts r1 r2 b nl + (if b < i ∧ hh b = true ∧ NSc hh nl b < 40 then d b else nI 0) := by
  intro i
  induction i with
  | zero => intro _; rw [if_neg (fun q => absurd q.1 (Nat.not_lt_zero _)), i_add0]; rfl
  | succ i ih =>
    intro hi
    have h1 := ih (by omega)
    rw [NSu, NSu, NSc]
    by_cases c : hh i = true ∧ NSc hh nl i < 40
    · rw [if_pos c, if_pos c, if_pos c, nts, upd_at, upd_at, nts_c (q1 := NSu hh nl r1 (fun b => nI b) i) (q2 := NSu hh nl r2 d i) (NSc hh nl i) (fun k hk => ⟨upd_ne _ _ (by omega), upd_ne _ _ (by omega)⟩), h1]
      by_cases e : i = b
      · subst e
        rw [if_neg (fun q => absurd q.1 (Nat.lt_irrefl _)), if_pos rfl, if_pos ⟨Nat.lt_succ_self _, c⟩, i_add0]
      · rw [if_neg (fun q => e ((nI_eq (by omega) (by omega)).mp q)), i_add0]
        by_cases c2 : b < i ∧ hh b = true ∧ NSc hh nl b < 40
        · rw [if_pos c2, if_pos ⟨by omega, c2.2⟩]
        · rw [if_neg c2, if_neg (fun q => c2 ⟨by omega, q.2⟩)]
    · rw [if_neg c, if_neg c, if_neg c, h1]
      by_cases c2 : b < i ∧ hh b = true ∧ NSc hh nl b < 40
      · rw [if_pos c2, if_pos ⟨by omega, c2.2⟩]
      · rw [if_neg c2, if_neg (fun q => c2 ⟨by rcases (show b < i ∨ b = i by omega) with z | z; exact z; subst z; exact absurd q.2 c, q.2⟩)]
end NS
theorem mnN_eq2 {st u : XS} {nr t b n : Nat} {us : Nat → Option Nat} (hK : ∀ k, 47 < k → k < 67 → ga u k = ga st k) (hr : LIr st nr) (h : LB st nr t b n us) : mnN u nr (knX st b) b n = tkN st nr b n := by
  obtain ⟨a1, a2, a3, a4, a5, ⟨c9, a6, a7, a8⟩, ⟨d, a9, a10, a11⟩, ⟨p, a12, a13, a14⟩, ⟨w9, a15, a16, a17⟩, ⟨x, a18, a19, a20⟩, a21⟩ := id h
  refine (tk_mn a2 ⟨hr.1, fun i hi => ?_⟩ ?_ ?_ ?_ (fun k hk => ?_)).symm
  · obtain ⟨b1, b2, b3, b4, _, b5⟩ := hr.2.2.2 i hi
    rw [hK 48 (by decide) (by decide), hK 49 (by decide) (by decide), hK 50 (by decide) (by decide), hK 51 (by decide) (by decide)]; exact ⟨b1, b2, b3, b4, b5⟩
  · rw [hK 62 (by decide) (by decide), a13, a14]
  · rw [hK 60 (by decide) (by decide), a10, a11]
  · rw [hK 63 (by decide) (by decide), a16, a17]
  · rw [hK 64 (by decide) (by decide), hK 65 (by decide) (by decide), hK 66 (by decide) (by decide)]; exact LB_ln h k hk
/-- what a bill's tax differs by -/
def dfS (st : XS) (nr : Nat) (ln : Nat → Nat) (b : Nat) : Int32 := tkN st nr b (ln b) - (gi st 11 (100 + 6 * b) + gi st 12 (100 + 6 * b))
def htS (st : XS) (nr : Nat) (ln : Nat → Nat) (p : Int32) (b : Nat) : Bool := decide (gi st 7 (100 + 6 * b) = p ∧ ¬ dfS st nr ln b = 0)
theorem tkN_K {st u : XS} {nr t nB b : Nat} {ln : Nat → Nat} {us : Nat → Option Nat} (hr : LIr st nr) (hb : LIb st nr t nB ln us) (h : stK st u) (hb9 : b < nB) (hB : nB ≤ 30) : tkN u nr b (ln b) = tkN st nr b (ln b) := by
  have hB9 := hb.2.2.2.1 b hb9
  have g : ∀ k, ¬ k = 10 → ¬ k = 17 → ¬ k = 18 → ¬ k = 19 → ga u k = ga st k := h.2.2.2.1
  have r1 : LIr u nr := LIr_K (h.2.2.1 4 4 (by decide) (by decide)) (h.2.2.1 17 30 (by decide) (by decide)) (g 13 (by decide) (by decide) (by decide) (by decide)) (g 14 (by decide) (by decide) (by decide) (by decide)) (g 15 (by decide) (by decide) (by decide) (by decide)) (g 16 (by decide) (by decide) (by decide) (by decide)) (g 48 (by decide) (by decide) (by decide) (by decide)) (g 49 (by decide) (by decide) (by decide) (by decide)) (g 50 (by decide) (by decide) (by decide) (by decide)) (g 51 (by decide) (by decide) (by decide) (by decide)) hr
  have r2 : LB u nr t b (ln b) us := LB_K (Nat.le_refl _) (Nat.le_refl _) (fun _ _ => rfl) (fun f hf => h.2.2.1 f _ (by omega) hf) (fun j h1 h2 => g _ (by omega) (by omega) (by omega) (by omega)) (fun r h1 h2 => by rw [g r (by omega) (by omega) (by omega) (by omega)]) (by rw [g 68 (by decide) (by decide) (by decide) (by decide)]) (fun r k h1 h2 _ => by rw [g r (by omega) (by omega) (by omega) (by omega)]) (fun i _ => by rw [g 50 (by decide) (by decide) (by decide) (by decide)]) hB9
  have e1 : knX u b = knX st b := by funext k; unfold knX; rw [g 64 (by decide) (by decide) (by decide) (by decide)]
  rw [← mnN_eq2 (u := st) (fun k h1 h2 => (g k (by omega) (by omega) (by omega) (by omega)).symm) r1 r2, e1, mnN_eq2 (u := st) (fun _ _ _ => rfl) hr hB9]
theorem cl_st {st : XS} {nr t nB nb nl : Nat} {ln : Nat → Nat} {us : Nat → Option Nat} (hr : LIr st nr) (hb : LIb st nr t nB ln us) (hB : nB ≤ 30) (p : Int32) : ∀ i, i ≤ nB →
    (stA nr nB (lnX nB nb ln) p (st, nl) i).2 = NSc (htS st nr ln p) nl i ∧ ga (stA nr nB (lnX nB nb ln) p (st, nl) i).1 17 = NSu (htS st nr ln p) nl (ga st 17) (fun b => nI b) i ∧ ga (stA nr nB (lnX nB nb ln) p (st, nl) i).1 18 = NSu (htS st nr ln p) nl (ga st 18) (dfS st nr ln) i ∧ ga (stA nr nB (lnX nB nb ln) p (st, nl) i).1 19 = NSu (htS st nr ln p) nl (ga st 19) (fun _ => gi st 4 0) i ∧
    ∀ b, b < nB → gi (stA nr nB (lnX nB nb ln) p (st, nl) i).1 12 (100 + 6 * b) = gi st 12 (100 + 6 * b) + (if b < i ∧ htS st nr ln p b = true ∧ NSc (htS st nr ln p) nl b < 40 then dfS st nr ln b else nI 0) := by
  intro i
  induction i with
  | zero => intro _; exact ⟨rfl, rfl, rfl, rfl, fun b _ => by rw [if_neg (fun q => absurd q.1 (Nat.not_lt_zero _)), i_add0]; rfl⟩
  | succ i ih =>
    intro hi
    obtain ⟨h1, h2, h3, h4, h5⟩ := ih (by omega)
    have hK := stA_K nr nB (lnX nB nb ln) p (st, nl) i
    obtain ⟨y, hy⟩ : ∃ y, y = stA nr nB (lnX nB nb ln) p (st, nl) i := ⟨_, rfl⟩
    rw [← hy] at h1 h2 h3 h4 h5 hK
    change stK st y.1 at hK
    have e7 : gi y.1 7 (100 + 6 * i) = gi st 7 (100 + 6 * i) := hK.2.2.1 7 _ (by omega) (by decide)
    have eD : mgD y.1 nr i (lnX nB nb ln i) = dfS st nr ln i := by
      unfold mgD dfS
      rw [lnX_lt (by omega), tkN_K hr hb hK (by omega) hB, hK.2.2.1 11 _ (by omega) (by decide), h5 i (by omega), if_neg (fun q => absurd q.1 (Nat.lt_irrefl _)), i_add0]
    have e4 : gi y.1 4 (100 + 6 * i) = nI i := (hK.2.2.1 4 _ (by omega) (by decide)).trans (hb.2.2.2.1 i (by omega)).2.2.2.2.1
    have e40 : gi y.1 4 0 = gi st 4 0 := hK.2.2.1 4 0 (by decide) (by decide)
    have old : ∀ (X : XS × Nat), X = y ∨ X = (tkS y.1 nr i, y.2) → ¬ (htS st nr ln p i = true ∧ NSc (htS st nr ln p) nl i < 40) → X.2 = NSc (htS st nr ln p) nl (i + 1) ∧ ga X.1 17 = NSu (htS st nr ln p) nl (ga st 17) (fun b => nI b) (i + 1) ∧ ga X.1 18 = NSu (htS st nr ln p) nl (ga st 18) (dfS st nr ln) (i + 1) ∧ ga X.1 19 = NSu (htS st nr ln p) nl (ga st 19) (fun _ => gi st 4 0) (i + 1) ∧
        ∀ b, b < nB → gi X.1 12 (100 + 6 * b) = gi st 12 (100 + 6 * b) + (if b < i + 1 ∧ htS st nr ln p b = true ∧ NSc (htS st nr ln p) nl b < 40 then dfS st nr ln b else nI 0) := by
      intro X hX c
      rw [NSc, NSu, NSu, NSu, if_neg c, if_neg c, if_neg c, if_neg c]
      have e12 : ∀ b, gi X.1 12 (100 + 6 * b) = gi y.1 12 (100 + 6 * b) := fun b => by rcases hX with rfl | rfl <;> rfl
      have e17 : ga X.1 17 = ga y.1 17 := by rcases hX with rfl | rfl <;> rfl
      have e18 : ga X.1 18 = ga y.1 18 := by rcases hX with rfl | rfl <;> rfl
      have e19 : ga X.1 19 = ga y.1 19 := by rcases hX with rfl | rfl <;> rfl
      refine ⟨by rcases hX with rfl | rfl <;> exact h1, e17.trans h2, e18.trans h3, e19.trans h4, fun b hb9 => ?_⟩
      rw [e12, h5 b hb9]
      by_cases c2 : b < i ∧ htS st nr ln p b = true ∧ NSc (htS st nr ln p) nl b < 40
      · rw [if_pos c2, if_pos ⟨by omega, c2.2⟩]
      · rw [if_neg c2, if_neg (fun q => c2 ⟨by rcases (show b < i ∨ b = i by omega) with z | z; exact z; subst z; exact absurd q.2 c, q.2⟩)]
    rw [stA, ← hy]
    by_cases c : i < nB ∧ y.2 < 40 ∧ gi y.1 7 (100 + 6 * i) = p
    · rw [if_pos c]
      unfold mgS
      rw [eD]
      by_cases d0 : dfS st nr ln i = 0
      · rw [if_pos d0]
        exact old _ (Or.inr rfl) (fun q => absurd (of_decide_eq_true q.1).2 (fun z => z d0))
      · rw [if_neg d0]
        have ch : htS st nr ln p i = true ∧ NSc (htS st nr ln p) nl i < 40 := ⟨decide_eq_true ⟨e7.symm.trans c.2.2, d0⟩, by rw [← h1]; exact c.2.1⟩
        rw [NSc, NSu, NSu, NSu, if_pos ch, if_pos ch, if_pos ch, if_pos ch, ← h1, ← h2, ← h3, ← h4, e4, e40]
        refine ⟨rfl, rfl, rfl, rfl, fun b hb9 => ?_⟩
        rw [gi_si]
        by_cases e : b = i
        · subst e
          rw [if_pos ⟨rfl, rfl⟩, h5 b hb9, if_neg (fun q => absurd q.1 (Nat.lt_irrefl _)), i_add0, if_pos ⟨Nat.lt_succ_self _, ch.1, ch.2⟩]
        · rw [if_neg (fun q => e (by omega)), gi_si, if_neg (by omega)]
          show gi y.1 12 (100 + 6 * b) = _
          rw [h5 b hb9]
          by_cases c2 : b < i ∧ htS st nr ln p b = true ∧ NSc (htS st nr ln p) nl b < 40
          · rw [if_pos c2, if_pos ⟨by omega, c2.2⟩]
          · rw [if_neg c2, if_neg (fun q => c2 ⟨by omega, q.2⟩)]
    · rw [if_neg c]
      refine old _ (Or.inl rfl) (fun q => c ⟨by omega, by rw [h1]; exact q.2, ?_⟩)
      rw [e7]; exact (of_decide_eq_true q.1).1
theorem rf_st {st u : XS} {nr t nB nb nl : Nat} {ln : Nat → Nat} {us : Nat → Option Nat} (hr : LIr st nr) (hb : LIb st nr t nB ln us) (hn : LIn st nB nl) (hB : nB ≤ 30) (p : Int32) (td : Int32) (hu : ∀ k, 47 < k → ga u k = ga st k) : ∀ i, i ≤ nB →
    (msA nr (knX st) (lnX nB nb ln) td p (u, nl, 0) i).2.1 = NSc (htS st nr ln p) nl i ∧ (msA nr (knX st) (lnX nB nb ln) td p (u, nl, 0) i).2.2 + nl = NSc (htS st nr ln p) nl i ∧ ga (msA nr (knX st) (lnX nB nb ln) td p (u, nl, 0) i).1 72 = NSu (htS st nr ln p) nl (ga st 72) (fun b => nI b) i ∧ ga (msA nr (knX st) (lnX nB nb ln) td p (u, nl, 0) i).1 73 = NSu (htS st nr ln p) nl (ga st 73) (dfS st nr ln) i ∧ ga (msA nr (knX st) (lnX nB nb ln) td p (u, nl, 0) i).1 74 = NSu (htS st nr ln p) nl (ga st 74) (fun _ => td) i := by
  intro i
  induction i with
  | zero => intro _; exact ⟨rfl, Nat.zero_add _, hu 72 (by decide), hu 73 (by decide), hu 74 (by decide)⟩
  | succ i ih =>
    intro hi
    obtain ⟨h1, h2, h3, h4, h5⟩ := ih (by omega)
    have hK := msA_K nr (knX st) (lnX nB nb ln) td p (u, nl, 0) i
    obtain ⟨y, hy⟩ : ∃ y, y = msA nr (knX st) (lnX nB nb ln) td p (u, nl, 0) i := ⟨_, rfl⟩
    rw [← hy] at h1 h2 h3 h4 h5 hK
    have g : ∀ k, 47 < k → ¬ k = 69 → ¬ k = 70 → ¬ k = 72 → ¬ k = 73 → ¬ k = 74 → ga y.1 k = ga st k := fun k h0 k1 k2 k3 k4 k5 => (hK.2.2.2.1 k k1 k2 k3 k4 k5).trans (hu k h0)
    have hB9 := hb.2.2.2.1 i (by omega)
    obtain ⟨a1, a2, a3, a4, a5, _, _, ⟨p9, _, a13, a14⟩, _, ⟨x, a18, a19, a20⟩, _⟩ := id hB9
    have e62 : ga y.1 62 i = gi st 7 (100 + 6 * i) := by rw [g 62 (by decide) (by decide) (by decide) (by decide) (by decide) (by decide), a13, a14]
    have eS : ∀ k, ¬ k = 69 → ¬ k = 70 → ga (mnS y.1 nr (knX st i) i (lnX nB nb ln i)) k = ga y.1 k := fun k k1 k2 => (mnS_K y.1 nr (knX st i) i (lnX nB nb ln i)).2.2.2.1 k k1 k2 |> fun f => by unfold mnS; rw [ga_sa, if_neg k1, ga_sa, if_neg k2]
    have eD : mnN y.1 nr (knX st i) i (lnX nB nb ln i) - mxS (mnS y.1 nr (knX st i) i (lnX nB nb ln i)) i y.2.1 = dfS st nr ln i := by
      unfold dfS
      rw [lnX_lt (by omega), mnN_eq2 (fun k k1 k2 => g k k1 (by omega) (by omega) (by omega) (by omega) (by omega)) hr hB9]
      rw [lnX_lt (by omega)] at eS
      rw [mx_nt, ntS_nts, eS 68 (by decide) (by decide), eS 72 (by decide) (by decide), eS 73 (by decide) (by decide), h3, h4, h1, nts_NS (by omega) i (by omega), if_neg (fun q => absurd q.1 (Nat.lt_irrefl _)), i_add0, g 68 (by decide) (by decide) (by decide) (by decide) (by decide) (by decide), ← ntS_nts, ← hn.2.2.2.2 i (by omega), a19, a20]
    have old : ∀ (X : XS × Nat × Nat), X = y ∨ X = (mnS y.1 nr (knX st i) i (lnX nB nb ln i), y.2) → ¬ (htS st nr ln p i = true ∧ NSc (htS st nr ln p) nl i < 40) → X.2.1 = NSc (htS st nr ln p) nl (i + 1) ∧ X.2.2 + nl = NSc (htS st nr ln p) nl (i + 1) ∧ ga X.1 72 = NSu (htS st nr ln p) nl (ga st 72) (fun b => nI b) (i + 1) ∧ ga X.1 73 = NSu (htS st nr ln p) nl (ga st 73) (dfS st nr ln) (i + 1) ∧ ga X.1 74 = NSu (htS st nr ln p) nl (ga st 74) (fun _ => td) (i + 1) := by
      intro X hX c
      rw [NSc, NSu, NSu, NSu, if_neg c, if_neg c, if_neg c, if_neg c]
      have e72 : ga X.1 72 = ga y.1 72 := by rcases hX with rfl | rfl; rfl; exact eS 72 (by decide) (by decide)
      have e73 : ga X.1 73 = ga y.1 73 := by rcases hX with rfl | rfl; rfl; exact eS 73 (by decide) (by decide)
      have e74 : ga X.1 74 = ga y.1 74 := by rcases hX with rfl | rfl; rfl; exact eS 74 (by decide) (by decide)
      exact ⟨by rcases hX with rfl | rfl <;> exact h1, by rcases hX with rfl | rfl <;> exact h2, e72.trans h3, e73.trans h4, e74.trans h5⟩
    rw [msA, ← hy]
    unfold mgM
    by_cases c : ga y.1 62 i = p
    · rw [if_pos c, eD]
      by_cases d0 : dfS st nr ln i = 0
      · rw [if_pos d0]
        exact old _ (Or.inr rfl) (fun q => absurd (of_decide_eq_true q.1).2 (fun z => z d0))
      · rw [if_neg d0]
        by_cases c4 : y.2.1 < 40
        · rw [if_pos c4]
          have ch : htS st nr ln p i = true ∧ NSc (htS st nr ln p) nl i < 40 := ⟨decide_eq_true ⟨e62.symm.trans c, d0⟩, by rw [← h1]; exact c4⟩
          rw [NSc, NSu, NSu, NSu, if_pos ch, if_pos ch, if_pos ch, if_pos ch, ← h1, ← h3, ← h4, ← h5, eS 72 (by decide) (by decide), eS 73 (by decide) (by decide), eS 74 (by decide) (by decide)]
          exact ⟨rfl, by show y.2.2 + 1 + nl = y.2.1 + 1; omega, rfl, rfl, rfl⟩
        · rw [if_neg c4]
          exact old _ (Or.inr rfl) (fun q => c4 (by rw [h1]; exact q.2))
    · rw [if_neg c]
      exact old _ (Or.inl rfl) (fun q => c (e62.trans (of_decide_eq_true q.1).1))
