/-! ===== what invoices answer is the same ===== -/
def lnX (nB nb : Nat) (ln : Nat → Nat) : Nat → Nat := fun b => if b = nB then nb else ln b
theorem lnX_lt {nB nb : Nat} {ln : Nat → Nat} {b : Nat} (h : b < nB) : lnX nB nb ln b = ln b := if_neg (by omega)
theorem lnX_7 {st : XS} {nr t nB nb : Nat} {ln : Nat → Nat} {us : Nat → Option Nat} (hd : LId st nB nb) (hb : LIb st nr t nB ln us) : ∀ b, b ≤ nB → lnX nB nb ln b ≤ 6 ∧ gi st 3 (100 + 6 * b) = nI (lnX nB nb ln b) := by
  intro b h
  by_cases e : b = nB
  · subst e; unfold lnX; rw [if_pos rfl]; exact ⟨hd.1, hd.2.2.1⟩
  · rw [lnX_lt (by omega)]; have h1 := hb.2.2.2.1 b (by omega); exact ⟨h1.2.1, h1.2.2.1⟩
theorem lnX_8 {st : XS} {nr t nB nb : Nat} {ln : Nat → Nat} {us : Nat → Option Nat} (hb : LIb st nr t nB ln us) : ∀ b, b < nB → lnX nB nb ln b ≤ 6 ∧ ga st 61 b = nI (lnX nB nb ln b) := by
  intro b h
  rw [lnX_lt h]; have h1 := hb.2.2.2.1 b h; exact ⟨h1.2.1, h1.2.2.2.1⟩
def knX (st : XS) (b k : Nat) : Nat := (ga st 64 (6 * b + k)).toNatClampNeg
theorem knX_8 {st : XS} {nr t nB nb : Nat} {ln : Nat → Nat} {us : Nat → Option Nat} (hb : LIb st nr t nB ln us) : ∀ b, b < nB → ∀ k, k < lnX nB nb ln b → knX st b k < 4 ∧ ga st 64 (6 * b + k) = nI (knX st b k) := by
  intro b h k hk
  rw [lnX_lt h] at hk
  obtain ⟨kk, q, p, a1, _, _, _, _, _, a7, _⟩ := (hb.2.2.2.1 b h).2.2.2.2.2.2.2.2.2.2 k hk
  unfold knX
  rw [a7, nI_clamp (by omega)]
  exact ⟨a1, rfl⟩
theorem LB_ln {st : XS} {nr t b n : Nat} {us : Nat → Option Nat} (h : LB st nr t b n us) : ∀ k, k < n → knX st b k < 4 ∧ bK st b k = nI (knX st b k) ∧ ga st 64 (6 * b + k) = nI (knX st b k) ∧ ga st 65 (6 * b + k) = bQ st b k ∧ ga st 66 (6 * b + k) = bP st b k := by
  intro k hk
  obtain ⟨kk, q, p, a1, _, _, _, _, a6, a7, a8, a9, a10, a11, _⟩ := h.2.2.2.2.2.2.2.2.2.2 k hk
  unfold knX
  rw [a7, nI_clamp (by omega)]
  exact ⟨a1, a6, rfl, a9.trans a8.symm, a11.trans a10.symm⟩
theorem ntS_ga {st u : XS} (h : ∀ k, ga u k = ga st k) (b n : Nat) : ntS u b n = ntS st b n := ntS_K (h 72) (h 73) n
theorem inv_eq {st u : XS} {nr t b n nB nl : Nat} {us : Nat → Option Nat} (hK : ∀ k, ga u k = ga st k) (h : LB st nr t b n us) (hn : LIn st nB nl) (hb : b < nB) (w : Int32) : mivS u b n nl w = invS st b n w := by
  obtain ⟨a1, a2, a3, a4, a5, ⟨c9, a6, a7, a8⟩, ⟨d, a9, a10, a11⟩, ⟨p, a12, a13, a14⟩, ⟨w9, a15, a16, a17⟩, ⟨x, a18, a19, a20⟩, a21⟩ := id h
  unfold mivS invS
  rw [mx_nt, ntS_ga hK, msS_K hK, hK, hK, hK, hK, hK, hK, a4, a7, a8, a10, a11, a13, a14, a16, a17, a19, a20, hn.2.2.2.2 b hb, sum_ms (u := st) n a2 (fun k hk => ⟨(LB_ln h k hk).2.2.2.1, (LB_ln h k hk).2.2.2.2⟩)]
theorem ow_eq {st u : XS} {nr t nB nl : Nat} {ln : Nat → Nat} {us : Nat → Option Nat} (hK : ∀ k, ga u k = ga st k) (hb : LIb st nr t nB ln us) (hn : LIn st nB nl) (p : Int32) : ∀ i, i ≤ nB → mowF u nl p i = owF st nB p i := by
  intro i
  induction i with
  | zero => intro _; rfl
  | succ i ih =>
    intro hi
    obtain ⟨_, _, _, _, _, _, _, ⟨p9, _, a13, a14⟩, _, ⟨x, _, a19, a20⟩, _⟩ := hb.2.2.2.1 i (by omega)
    rw [mowF, owF, ih (by omega), hK, a13, a14, mx_nt, ntS_ga hK, hK, a19, a20, hn.2.2.2.2 i (by omega)]
    by_cases e : nI p9 = p
    · rw [if_pos e, if_pos ⟨by omega, e⟩]
    · rw [if_neg e, if_neg (fun q => e q.2), i_add0]
theorem ow_up {st : XS} {nB : Nat} (p : Int32) : ∀ k, owF st nB p (nB + k) = owF st nB p nB := by
  intro k
  induction k with
  | zero => rfl
  | succ k ih => show owF st nB p (nB + k + 1) = _; rw [owF, if_neg (fun q => absurd q.1 (by omega))]; exact ih
theorem ow_30 {st u : XS} {nr t nB nl : Nat} {ln : Nat → Nat} {us : Nat → Option Nat} (hK : ∀ k, ga u k = ga st k) (h30 : nB ≤ 30) (hb : LIb st nr t nB ln us) (hn : LIn st nB nl) (p : Int32) : mowF u nl p nB = owF st nB p 30 := by
  have e := ow_up (st := st) (nB := nB) p (30 - nB)
  rw [show nB + (30 - nB) = 30 by omega] at e
  rw [e, ow_eq hK hb hn p nB (Nat.le_refl _)]
theorem mnN_eq {st u : XS} {nr t b n : Nat} {us : Nat → Option Nat} (hK : ∀ k, ¬ k = 10 → ga u k = ga st k) (hr : LIr st nr) (h : LB st nr t b n us) : mnN u nr (knX st b) b n = tkN st nr b n := by
  obtain ⟨a1, a2, a3, a4, a5, ⟨c9, a6, a7, a8⟩, ⟨d, a9, a10, a11⟩, ⟨p, a12, a13, a14⟩, ⟨w9, a15, a16, a17⟩, ⟨x, a18, a19, a20⟩, a21⟩ := id h
  refine (tk_mn a2 ⟨hr.1, fun i hi => ?_⟩ ?_ ?_ ?_ (fun k hk => ?_)).symm
  · obtain ⟨b1, b2, b3, b4, _, b5⟩ := hr.2.2.2 i hi
    rw [hK 48 (by decide), hK 49 (by decide), hK 50 (by decide), hK 51 (by decide)]; exact ⟨b1, b2, b3, b4, b5⟩
  · rw [hK 62 (by decide), a13, a14]
  · rw [hK 60 (by decide), a10, a11]
  · rw [hK 63 (by decide), a16, a17]
  · rw [hK 64 (by decide), hK 65 (by decide), hK 66 (by decide)]; exact LB_ln h k hk
