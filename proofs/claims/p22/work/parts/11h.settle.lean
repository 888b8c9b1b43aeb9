/-! ===== taxes: the class's are the law's ===== -/
def LnF (K Q P R f : Nat → Int32) (n : Nat) (kn : Nat → Nat) : Prop := n ≤ 6 ∧ ∀ k, k < n → kn k < 4 ∧ K k = nI (kn k) ∧ f k = Q k * P k * R (kn k)
section
variable {K Q P R f : Nat → Int32} {n : Nat} {kn : Nat → Nat}
theorem tmR_f (h : LnF K Q P R f n kn) {k : Nat} (hk : k < n) : tmR K Q P R (nI k) = f k := by
  obtain ⟨hn, h⟩ := h
  obtain ⟨h1, h2, h3⟩ := h k hk
  unfold tmR amS
  rw [xget_nI (by omega) (by decide), xget_nI (by omega) (by decide), xget_nI (n := 6) (f := K) (by omega) (by decide), h2, xget_nI h1 (by decide), h3]
theorem txL_f (h : LnF K Q P R f n kn) : ∀ i, i ≤ n → txL K Q P R i = ltL f i := by
  intro i
  induction i with
  | zero => intro _; rfl
  | succ i ih => intro hi; rw [txL, ltL, ih (by omega), tmR_f h (by omega)]
theorem txA_f (h : LnF K Q P R f n kn) : ∀ i, i ≤ n → txA K Q P R i = ltA f i := by
  intro i
  induction i with
  | zero => intro _; rfl
  | succ i ih => intro hi; rw [txA, ltA, ih (by omega), tmR_f h (by omega)]
theorem txO_f (h : LnF K Q P R f n kn) {j : Nat} (hj : j < 4) : ∀ i, i ≤ n → txO K Q P R (nI j) i = ltK f kn i j := by
  intro i
  induction i with
  | zero => intro _; rfl
  | succ i ih =>
    intro hi
    have h9 := h.2 i (by omega)
    rw [txO, ltK, ih (by omega), h9.2.1]
    by_cases e : kn i = j
    · rw [if_pos (by rw [e]), e, pk_us, tmR_f h (by omega)]
    · rw [if_neg (fun q => e ((nI_eq (by omega) (by omega)).mp q)), pk_un (Ne.symm e)]
      exact Int32.add_zero _
theorem txK_f (h : LnF K Q P R f n kn) : ∀ j, j ≤ 4 → txK K Q P R n j = ltB (ltK f kn n) j := by
  intro j
  induction j with
  | zero => intro _; rfl
  | succ j ih => intro hj; rw [txK, ltB, ih (by omega), txO_f h (by omega) n (Nat.le_refl _)]
theorem tx_f (h : LnF K Q P R f n kn) {w : Nat} (hw : w < 3) : txB (nI w) K Q P R n = ltx (nI w) f kn n := by
  unfold txB ltx
  rw [txL_f h n (Nat.le_refl _), txK_f h 4 (Nat.le_refl _), txA_f h n (Nat.le_refl _)]
  rcases (show w = 0 ∨ w = 1 ∨ w = 2 by omega) with rfl | rfl | rfl
  · rw [if_pos rfl, if_pos rfl]
  · rw [if_neg (by decide), if_pos rfl, if_neg (by decide), if_neg (by decide)]
  · rw [if_neg (by decide), if_neg (by decide), if_neg (by decide), if_pos rfl]
end
theorem rt_eq {T pl kn hu fr : Nat → Int32} {n : Nat} (hR : RtL T pl kn hu fr n) (hn : n ≤ 60) {o : Option Nat} (ho : ∀ j, o = some j → j < n) : rtOf hu (oI o) = rtO T o := by
  rcases o with _ | j
  · rfl
  · have hj := ho j rfl
    show (if nI j = -1 then nI 0 else xget 60 hu (nI j)) = T (4 * j + 2)
    rw [if_neg (nI_ne1 (by omega)), xget_nI (by omega) (by decide), (hR j hj).2.2.1]
theorem rt_N {T pl kn hu fr : Nat → Int32} {n : Nat} (hR : RtL T pl kn hu fr n) {o : Option Nat} (ho : ∀ j, o = some j → j < n) : ∃ r, r ≤ 100 ∧ rtO T o = nI r := by
  rcases o with _ | j
  · exact ⟨0, by decide, rfl⟩
  · obtain ⟨_, _, h3, _, ⟨r, h5, h6⟩, _⟩ := hR j (ho j rfl)
    exact ⟨r, h5, h3.trans h6⟩
/-- the kind of a line -/
def kN (st : XS) (b k : Nat) : Nat := (ga st 33 (9 * b + 3 * k)).toNatClampNeg
theorem kN_of {st : XS} {b k : Nat} (h : PL st b k) : kN st b k < 3 ∧ ga st 33 (9 * b + 3 * k) = nI (kN st b k) ∧ bK st b k = nI (kN st b k) ∧ bQ st b k = ga st 33 (9 * b + 3 * k + 1) ∧ bP st b k = ga st 33 (9 * b + 3 * k + 2) := by
  obtain ⟨kk, q, p, h1, h2, h3, h4, h5, h6, h7, h8, h9, h10, h11⟩ := h
  have e : kN st b k = kk := by unfold kN; rw [h7, nI_clamp (by omega)]
  rw [e]; exact ⟨h1, h7, h6, h8.trans h9.symm, h10.trans h11.symm⟩
/-- the tellings that are known of an invoice's lines -/
def oN (st : XS) (n b k : Nat) : Option Nat := knoS st n (ga st 32 (7 * b + 3)) (nI (kN st b k)) (ga st 32 (7 * b + 1))
theorem oN_lt {st : XS} {n b k j : Nat} (h : oN st n b k = some j) : j < n := knO_lt _ _ _ _ _ _ _ _ h
/-- the tax that is known now, as the law reckons it -/
def itN (st : XS) (n : Nat) (ln : Nat → Nat) (b : Nat) : Int32 := ltx (ga st 32 (7 * b + 4)) (itsF (ga st 33) (ga st 31) b (fun k => knoS st n (ga st 32 (7 * b + 3)) (nI (kN st b k)) (ga st 32 (7 * b + 1)))) (kN st b) (ln b)
theorem tk_it {st : XS} {n b : Nat} {ln : Nat → Nat} (hR : PR n st) (h : PB st b (ln b)) : tkN st n b (ln b) = itN st n ln b := by
  obtain ⟨w, w1, w2, w3⟩ := h.2.2.2.2.2.2.2.2.1
  obtain ⟨p, p1, p2, p3⟩ := h.2.2.2.2.2.2.2.1
  obtain ⟨d, d1, d2, d3⟩ := h.2.2.2.2.2.2.1
  unfold tkN itN
  rw [w2, w3]
  refine tx_f ⟨by have := h.2.1; omega, fun k hk => ?_⟩ w1
  obtain ⟨k1, k2, k3, k4, k5⟩ := kN_of (h.2.2.2.2.2.2.2.2.2.2.2.2 k hk)
  refine ⟨by omega, k3, ?_⟩
  unfold itsF
  rw [k4, k5, tkS, ga_self, fup_in (show kN st b k < 4 by omega), knS_o, p2, d2, p3, d3, rt_eq hR.2.2 (by have := hR.1; omega) (fun j hj => knO_lt _ _ _ _ _ _ _ _ hj)]
/-! ===== settling ===== -/
/-- does invoice b change at this settling -/
def stC (st : XS) (n : Nat) (ln : Nat → Nat) (p b : Nat) : Bool := decide (ga st 32 (7 * b + 3) = nI p ∧ ¬ itN st n ln b = ga st 32 (7 * b + 6))
theorem stC_t {st : XS} {n : Nat} {ln : Nat → Nat} {p b : Nat} : stC st n ln p b = true ↔ ga st 32 (7 * b + 3) = nI p ∧ ¬ itN st n ln b = ga st 32 (7 * b + 6) := decide_eq_true_iff
/-- how many change among the first i -/
def stM (st : XS) (n : Nat) (ln : Nat → Nat) (p : Nat) : Nat → Nat
  | 0 => 0
  | i + 1 => if stC st n ln p i then stM st n ln p i + 1 else stM st n ln p i
/-- the law's invoices behind the first i -/
def stR (st : XS) (n : Nat) (ln : Nat → Nat) (p nn : Nat) : Nat → (Nat → Int32)
  | 0 => ga st 32
  | i + 1 => if stC st n ln p i = true ∧ nn + (stM st n ln p i + 1) ≤ 40 then upd (stR st n ln p nn i) (7 * i + 6) (itN st n ln i) else stR st n ln p nn i
theorem stM_le (st : XS) (n : Nat) (ln : Nat → Nat) (p : Nat) : ∀ i, stM st n ln p i ≤ i := by
  intro i
  induction i with
  | zero => exact Nat.le_refl _
  | succ i ih => rw [stM]; split <;> omega
theorem stR_o {st : XS} {n : Nat} {ln : Nat → Nat} {p nn j : Nat} : ∀ i, (∀ b, b < i → ¬ j = 7 * b + 6) → stR st n ln p nn i j = ga st 32 j := by
  intro i
  induction i with
  | zero => intro _; rfl
  | succ i ih =>
    intro h
    rw [stR]
    split
    · rw [pk_un (h i (by omega))]; exact ih (fun b hb => h b (by omega))
    · exact ih (fun b hb => h b (by omega))
theorem sa_cm {st : XS} {f g : Nat → Int32} {k j : Nat} (h : ¬ k = j) : sa (sa st k f) j g = sa (sa st j g) k f := by
  refine XS_ext (fun _ _ => rfl) (fun _ _ => rfl) (fun _ _ => rfl) (fun q => ?_) (fun _ => rfl)
  rw [ga_sa, ga_sa, ga_sa, ga_sa]
  by_cases h1 : q = j
  · rw [if_pos h1, if_neg (by omega), if_pos h1]
  · rw [if_neg h1, if_neg h1]
theorem tx_R {K Q P R R' : Nat → Int32} (h : ∀ k, k < 4 → R' k = R k) (w : Int32) (n n4 : Nat) : txL K Q P R' n = txL K Q P R n ∧ txA K Q P R' n = txA K Q P R n ∧ txK K Q P R' n n4 = txK K Q P R n n4 := by
  have e2 : ∀ x, xget 4 R' x = xget 4 R x := fun x => by
    unfold xget
    by_cases q : x < 0 ∨ 4 ≤ x.toNatClampNeg
    · rw [if_pos q, if_pos q]
    · rw [if_neg q, if_neg q]; exact h _ (by omega)
  have e3 : tmR K Q P R' = tmR K Q P R := funext fun i => by unfold tmR; rw [e2]
  refine ⟨?_, ?_, ?_⟩
  · induction n with
    | zero => rfl
    | succ m ih => rw [txL, txL, ih, e3]
  · induction n with
    | zero => rfl
    | succ m ih => rw [txA, txA, ih, e3]
  · have t3 : ∀ j m, txO K Q P R' j m = txO K Q P R j m := fun j m => by
      induction m with
      | zero => rfl
      | succ m ih => rw [txO, txO, ih, e3]
    induction n4 with
    | zero => rfl
    | succ j ih => rw [txK, txK, ih, t3]
theorem txB_R {K Q P R R' : Nat → Int32} (h : ∀ k, k < 4 → R' k = R k) (w : Int32) (n : Nat) : txB w K Q P R' n = txB w K Q P R n := by
  obtain ⟨h1, h2, h3⟩ := tx_R (K := K) (Q := Q) (P := P) h w n 4
  unfold txB
  rw [h1, h2, h3]
theorem tkR_K {st u : XS} {n b : Nat} (h7 : gi u 7 (100 + 6 * b) = gi st 7 (100 + 6 * b)) (h6 : gi u 6 (100 + 6 * b) = gi st 6 (100 + 6 * b)) (h3 : ∀ k, 13 ≤ k → k ≤ 16 → ga u k = ga st k) {k n4 : Nat} (hk : k < n4) : fup (ga u 10) (fun k => rtOf (ga u 15) (knS u n (gi u 7 (100 + 6 * b)) (nI k) (gi u 6 (100 + 6 * b)))) n4 k = fup (ga st 10) (fun k => rtOf (ga st 15) (knS st n (gi st 7 (100 + 6 * b)) (nI k) (gi st 6 (100 + 6 * b)))) n4 k := by
  rw [fup_in hk, fup_in hk]
  show rtOf (ga u 15) (knF (ga u 13) (ga u 14) (ga u 16) _ _ _ n).1 = rtOf (ga st 15) (knF (ga st 13) (ga st 14) (ga st 16) _ _ _ n).1
  rw [h3 13 (by decide) (by decide), h3 14 (by decide) (by decide), h3 15 (by decide) (by decide), h3 16 (by decide) (by decide), h7, h6]
theorem tkN_K {st u : XS} {n b ln : Nat} (h1 : ∀ f, ¬ f = 12 → gi u f (100 + 6 * b) = gi st f (100 + 6 * b)) (h2 : ∀ j, 1 ≤ j → j < 4 → ga u (100 + 6 * b + j) = ga st (100 + 6 * b + j)) (h3 : ∀ k, 13 ≤ k → k ≤ 16 → ga u k = ga st k) : tkN u n b ln = tkN st n b ln := by
  unfold tkN
  rw [show bK u b = bK st b from h2 1 (by decide) (by decide), show bQ u b = bQ st b from h2 2 (by decide) (by decide), show bP u b = bP st b from h2 3 (by decide) (by decide), h1 8 (by decide)]
  refine txB_R (fun k hk => ?_) _ ln
  unfold tkS
  rw [ga_self, ga_self]
  exact tkR_K (h1 7 (by decide)) (h1 6 (by decide)) h3 hk
/-- the class's settling beside the law's -/
theorem st_both {st v : XS} {bd d n mB nn p : Nat} {ln : Nat → Nat} (hm : mB ≤ 7) (h : PI0 st bd d n mB nn 0 ln) (hv1 : ∀ f k, gi v f k = gi st f k) (hv2 : ∀ k, ¬ k = 10 → ¬ k = 32 → ga v k = ga st k) (hp4 : p < 4) :
    ∀ i, i ≤ mB → (stA n mB (lnX mB 0 ln) (nI p) (v, nn) i).2 = min (nn + stM st n ln p i) 40 ∧ ∀ b, b ≤ mB → gi (stA n mB (lnX mB 0 ln) (nI p) (v, nn) i).1 11 (100 + 6 * b) + gi (stA n mB (lnX mB 0 ln) (nI p) (v, nn) i).1 12 (100 + 6 * b) = (if b < mB then stR st n ln p nn i (7 * b + 6) else gi st 11 (100 + 6 * b) + gi st 12 (100 + 6 * b)) ∧ (b = mB → gi (stA n mB (lnX mB 0 ln) (nI p) (v, nn) i).1 12 (100 + 6 * b) = nI 0) := by
  obtain ⟨hR, hM, hD, hB, ⟨hN1, hN2⟩, hF⟩ := h
  intro i
  induction i with
  | zero =>
    intro _
    refine ⟨by show nn = min (nn + 0) 40; omega, fun b hb => ?_⟩
    show gi v 11 _ + gi v 12 _ = _ ∧ (_ → gi v 12 _ = _)
    rw [hv1, hv1]
    by_cases e : b < mB
    · rw [if_pos e]; exact ⟨(hB.2 b e).2.2.2.2.2.2.2.2.2.2.1.symm, fun q => by omega⟩
    · rw [if_neg e]; exact ⟨rfl, fun q => by rw [q]; exact hD.2.2.2.2.1⟩
  | succ i ih =>
    intro hi
    obtain ⟨h1, h2⟩ := ih (by omega)
    obtain ⟨X, eX⟩ : ∃ X, X = stA n mB (lnX mB 0 ln) (nI p) (v, nn) i := ⟨_, rfl⟩
    have hK : stK v X.1 := by rw [eX]; exact stA_K ..
    rw [← eX] at h1 h2
    rw [stA, ← eX, stM, stR]
    have hBi := hB.2 i (by omega)
    obtain ⟨p8, q1, q2, q3⟩ := hBi.2.2.2.2.2.2.2.1
    have e7 : gi X.1 7 (100 + 6 * i) = nI p8 := by rw [hK.2.2.1 _ _ (by omega) (by decide), hv1]; exact q2
    have etk : tkN X.1 n i (lnX mB 0 ln i) = itN st n ln i := by
      rw [lnX_lt (by omega), ← tk_it hR hBi]
      exact tkN_K (fun f hf => by rw [hK.2.2.1 _ _ (by omega) hf, hv1]) (fun j j1 j2 => by rw [hK.2.2.2.1 _ (by omega) (by omega) (by omega) (by omega), hv2 _ (by omega) (by omega)]) (fun k k1 k2 => by rw [hK.2.2.2.1 _ (by omega) (by omega) (by omega) (by omega), hv2 _ (by omega) (by omega)])
    have eD : mgD X.1 n i (lnX mB 0 ln i) = itN st n ln i - ga st 32 (7 * i + 6) := by
      unfold mgD
      rw [etk, (h2 i (by omega)).1, if_pos (by omega), stR_o i (fun b hb => by omega)]
    have hs7 : ∀ {a c : Int32}, a - c = 0 ↔ a = c := fun {a c} => by
      constructor
      · intro q; have := congrArg (· + c) q; simpa [Int32.sub_add_cancel] using this
      · intro q; rw [q]; exact Int32.sub_self c
    by_cases hc : stC st n ln p i = true
    · rw [if_pos hc]
      obtain ⟨c1, c2⟩ := stC_t.mp hc
      have ep : p8 = p := (nI_eq (by omega) (by omega)).mp (q3.symm.trans c1)
      by_cases hX : X.2 < 40
      · have hn40 : nn + (stM st n ln p i + 1) ≤ 40 := by omega
        rw [if_pos ⟨by omega, hX, by rw [e7, ep]⟩, if_pos ⟨hc, hn40⟩]
        have hd0 : ¬ mgD X.1 n i (lnX mB 0 ln i) = 0 := by rw [eD]; exact fun q => c2 (hs7.mp q)
        unfold mgS
        rw [if_neg hd0]
        refine ⟨by show X.2 + 1 = _; omega, fun b hb => ?_⟩
        show gi (si _ 12 (100 + 6 * i) _) 11 _ + gi (si _ 12 (100 + 6 * i) _) 12 _ = _ ∧ (_ → gi (si _ 12 (100 + 6 * i) _) 12 _ = _)
        have g11 : ∀ z : Int32, ∀ w : XS, gi (si w 12 (100 + 6 * i) z) 11 (100 + 6 * b) = gi w 11 (100 + 6 * b) := fun z w => by rw [gi_si, if_neg (by omega)]
        have g12 : ∀ z : Int32, ∀ w : XS, gi (si w 12 (100 + 6 * i) z) 12 (100 + 6 * b) = if b = i then z else gi w 12 (100 + 6 * b) := fun z w => by
          rw [gi_si]
          by_cases q : b = i
          · rw [if_pos q, if_pos ⟨rfl, by rw [q]⟩]
          · rw [if_neg q, if_neg (fun z => q (by omega))]
        rw [g11, g12]
        have g3 : ∀ (f : Nat) (w : XS) (z : Int32), gi (si w 3 5 z) f (100 + 6 * b) = gi w f (100 + 6 * b) := fun f w z => by rw [gi_si, if_neg (by omega)]
        rw [g3, g3]
        by_cases e : b = i
        · subst e
          rw [if_pos rfl, if_pos (by omega), pk_us]
          refine ⟨?_, fun q => by omega⟩
          show gi X.1 11 _ + (gi X.1 12 _ + mgD X.1 n b _) = _
          unfold mgD
          rw [etk, ← Int32.add_assoc, Int32.add_comm (gi X.1 11 _ + gi X.1 12 _), Int32.sub_add_cancel]
        · rw [if_neg e]
          show gi X.1 11 _ + gi X.1 12 _ = _ ∧ (_ → gi X.1 12 _ = _)
          have := h2 b hb
          refine ⟨this.1.trans ?_, this.2⟩
          by_cases e2 : b < mB
          · rw [if_pos e2, if_pos e2, pk_un (by omega)]
          · rw [if_neg e2, if_neg e2]
      · rw [if_neg (fun q => hX q.2.1), if_neg (fun q => by omega)]
        exact ⟨by omega, h2⟩
    · rw [if_neg hc, if_neg (c := stC st n ln p i = true ∧ _) (fun q => hc q.1)]
      by_cases hX : i < mB ∧ X.2 < 40 ∧ gi X.1 7 (100 + 6 * i) = nI p
      · rw [if_pos hX]
        have ep : p8 = p := (nI_eq (by omega) (by omega)).mp (e7.symm.trans hX.2.2)
        have hd0 : mgD X.1 n i (lnX mB 0 ln i) = 0 := by
          rw [eD]
          refine hs7.mpr (Classical.byContradiction fun q => hc (stC_t.mpr ⟨by rw [q3, ep], q⟩))
        unfold mgS
        rw [if_pos hd0]
        exact ⟨h1, h2⟩
      · rw [if_neg hX]; exact ⟨h1, h2⟩
theorem stA_30 {n mB nn p : Nat} {ln : Nat → Nat} {v : XS} (hm : mB ≤ 7) : stA n mB ln (nI p) (v, nn) 30 = stA n mB ln (nI p) (v, nn) mB := by
  have : ∀ k, stA n mB ln (nI p) (v, nn) (mB + k) = stA n mB ln (nI p) (v, nn) mB := by
    intro k
    induction k with
    | zero => rfl
    | succ k ih => rw [← Nat.add_assoc, stA, if_neg (fun q => by omega), ih]
  rw [← this (30 - mB), show mB + (30 - mB) = 30 by omega]
theorem PI_settle {Ls : List Nat} {st v u : XS} {bd d n mB nn p : Nat} {ln : Nat → Nat} {f : Nat → Int32} (h : PI Ls st bd d n mB nn ln) (hp4 : p < 4) (hv : v = sa (sa st 10 f) 32 (stR st n ln p nn mB)) (hu : u = (stA n mB (lnX mB 0 ln) (nI p) (v, nn) 30).1) : PI Ls u bd d n mB (min (nn + stM st n ln p mB) 40) ln := by
  have hm := h.1.2.2.2.2.2.2.2.2
  have hv1 : ∀ f k, gi v f k = gi st f k := fun f k => by rw [hv]; rfl
  have hv2 : ∀ k, ¬ k = 10 → ¬ k = 32 → ga v k = ga st k := fun k q1 q2 => by rw [hv, ga_sa, if_neg q2, ga_sa, if_neg q1]
  have hv32 : ga v 32 = stR st n ln p nn mB := by rw [hv, ga_self]
  rw [stA_30 hm] at hu
  obtain ⟨c1, c2⟩ := st_both (p := p) hm h.2 hv1 hv2 hp4 mB (Nat.le_refl _)
  have hK : stK v u := by rw [hu]; exact stA_K ..
  have hn := stA_n n mB (lnX mB 0 ln) (nI p) (v, nn) (by show gi v 3 5 = _; rw [hv1]; exact h.2.2.2.2.2.1.2) mB
  rw [← hu] at hn c2
  obtain ⟨ha, ⟨r1, r2, r3⟩, ⟨m1, m2, m3, m4, m5⟩, ⟨d1, d2, d3, d4, d5, d6⟩, ⟨b1, b2⟩, ⟨n1, n2⟩, ⟨f1, f2, f3, f4, f5⟩⟩ := h
  have gk : ∀ f k, ¬ (f = 3 ∧ k = 5) → ¬ f = 12 → gi u f k = gi st f k := fun f k q1 q2 => (hK.2.2.1 f k q1 q2).trans (hv1 f k)
  have ak : ∀ k, ¬ k = 10 → ¬ k = 17 → ¬ k = 18 → ¬ k = 19 → ¬ k = 32 → ga u k = ga st k := fun k q1 q2 q3 q4 q5 => (hK.2.2.2.1 k q1 q2 q3 q4).trans (hv2 k q1 q5)
  have e32 : ga u 32 = stR st n ln p nn mB := (hK.2.2.2.1 32 (by decide) (by decide) (by decide) (by decide)).trans hv32
  have a33 : ga u 33 = ga st 33 := ak 33 (by decide) (by decide) (by decide) (by decide) (by decide)
  have hgp : ∀ f k, gp u f k = gp st f k := fun f k => (hK.2.1 f k).trans (by rw [hv]; rfl)
  have hgb : ∀ k, gb u k = gb st k := fun k => (hK.1 k).trans (by rw [hv]; rfl)
  refine ⟨PA_K ha hgp hgb, ⟨r1, (gk 4 4 (by decide) (by decide)).trans r2, ?_⟩, ⟨(gk 4 0 (by decide) (by decide)).trans m1, ?_, ?_, ?_, ?_⟩, ⟨d1, (hgp ..).trans d2, (gk 10 0 (by decide) (by decide)).trans d3, (gk 3 _ (by omega) (by decide)).trans d4, (c2 mB (Nat.le_refl _)).2 rfl, fun k hk => absurd hk (by omega)⟩, ⟨fun i hi => by rw [hgb]; exact b1 i hi, fun b hb => ?_⟩, ⟨by omega, by rw [hn, c1]⟩, ⟨f1, f2, fun i hi => by rw [hgb]; exact f3 i hi, (gk 3 _ (by decide) (by decide)).trans f4, ?_⟩⟩
  · rw [ak 31 (by decide) (by decide) (by decide) (by decide) (by decide), ak 13 (by decide) (by decide) (by decide) (by decide) (by decide), ak 14 (by decide) (by decide) (by decide) (by decide) (by decide), ak 15 (by decide) (by decide) (by decide) (by decide) (by decide), ak 16 (by decide) (by decide) (by decide) (by decide) (by decide)]; exact r3
  · rw [ak 7 (by decide) (by decide) (by decide) (by decide) (by decide)]; exact m2
  · rw [ak 7 (by decide) (by decide) (by decide) (by decide) (by decide), ak 36 (by decide) (by decide) (by decide) (by decide) (by decide)]; exact m3
  · rw [ak 8 (by decide) (by decide) (by decide) (by decide) (by decide)]; exact m4
  · rw [ak 8 (by decide) (by decide) (by decide) (by decide) (by decide), ak 35 (by decide) (by decide) (by decide) (by decide) (by decide)]; exact m5
  · obtain ⟨a1, a2, a3, a4, a5, a6, a7, a8, a9, a10, a11, a12, a13⟩ := b2 b hb
    have e5 : ∀ j, ¬ j = 6 → j < 7 → ga u 32 (7 * b + j) = ga st 32 (7 * b + j) := fun j q1 q2 => by rw [e32]; exact stR_o mB (fun b' _ => by omega)
    unfold PB bH
    rw [gk 3 _ (by omega) (by decide), gk 4 _ (by omega) (by decide), gk 5 _ (by omega) (by decide), gk 6 _ (by omega) (by decide), gk 7 _ (by omega) (by decide), gk 8 _ (by omega) (by decide), e5 2 (by decide) (by decide), e5 1 (by decide) (by decide), show ga u 32 (7 * b) = ga st 32 (7 * b) from e5 0 (by decide) (by decide), e5 3 (by decide) (by decide), e5 4 (by decide) (by decide), e5 5 (by decide) (by decide), ak (100 + 6 * b + 5) (by omega) (by omega) (by omega) (by omega) (by omega)]
    refine ⟨a1, a2, a3, a4, a5, a6, a7, a8, a9, by rw [gk 11 _ (by omega) (by decide)]; exact a10, ?_, a12, fun k hk => PL_K (a13 k hk) (fun j _ _ => by rw [ak _ (by omega) (by omega) (by omega) (by omega) (by omega)]) (fun i _ => by rw [a33])⟩
    rw [(c2 b (by omega)).1, if_pos hb, e32]
  · intro j hj
    rw [ak 301 (by decide) (by decide) (by decide) (by decide) (by decide), ak 302 (by decide) (by decide) (by decide) (by decide) (by decide), ak 303 (by decide) (by decide) (by decide) (by decide) (by decide)]; exact f5 j hj
