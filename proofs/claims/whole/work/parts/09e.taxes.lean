/-! ===== tellings, sums and taxes are the same ===== -/
theorem i_add0 (x : Int32) : x + nI 0 = x := Int32.add_zero x
theorem i_0add (x : Int32) : nI 0 + x = x := Int32.zero_add x
theorem kn_mt {pl kn fr pl2 kn2 fr2 : Nat → Int32} {n : Nat} (h : ∀ i, i < n → pl2 i = pl i ∧ kn2 i = kn i ∧ fr2 i = fr i ∧ ∃ d, d ≤ 9999 ∧ fr i = nI d) (p k d : Int32) : ∀ i, i ≤ n → knF pl kn fr p k d i = (oI (mtO pl2 kn2 fr2 p k d i), match mtO pl2 kn2 fr2 p k d i with | none => -1 | some j => fr2 j) := by
  intro i
  induction i with
  | zero => intro _; rfl
  | succ i ih =>
    intro hi
    have e := ih (by omega)
    obtain ⟨h1, h2, h3, d9, hd, h4⟩ := h i (by omega)
    rw [mtO, h1, h2, h3]
    by_cases hc : pl i = p ∧ kn i = k ∧ ¬ d < fr i
    · rw [if_pos hc]
      have hle : fr i ≤ d := i32_nlt hc.2.2
      rcases ho : mtO pl2 kn2 fr2 p k d i with _ | j
      · rw [ho] at e
        rw [knF_y ⟨hc.1, hc.2.1, hle, by rw [e]; show (-1 : Int32) ≤ fr i; rw [h4, Int32.le_iff_toInt_le, nI_toInt (by omega)]; show (-1 : Int) ≤ (d9 : Int); omega⟩]
        show _ = (oI (some i), fr2 i)
        rw [h3]; rfl
      · rw [ho] at e
        have e2 : (knF pl kn fr p k d i).2 = fr2 j := by rw [e]
        show _ = (oI (if fr i < fr2 j then some j else some i), match (if fr i < fr2 j then some j else some i) with | none => -1 | some j => fr2 j)
        by_cases hl : fr i < fr2 j
        · rw [if_pos hl, knF_n (fun q => i32_lt_nle hl (by rw [← e2]; exact q.2.2.2)), e]
        · rw [if_neg hl, knF_y ⟨hc.1, hc.2.1, hle, by rw [e2]; exact i32_nlt hl⟩]
          show _ = (oI (some i), fr2 i)
          rw [h3]; rfl
    · rw [if_neg hc, knF_n (fun q => hc ⟨q.1, q.2.1, fun z => i32_lt_nle z q.2.2.1⟩)]
      exact e
/-- the rates of one state are the other's -/
def RtE (st u : XS) (nr : Nat) : Prop := nr ≤ 60 ∧ ∀ i, i < nr → ga u 48 i = ga st 13 i ∧ ga u 49 i = ga st 14 i ∧ ga u 50 i = ga st 15 i ∧ ga u 51 i = ga st 16 i ∧ ∃ d, d ≤ 9999 ∧ ga st 16 i = nI d
theorem LIr_E {st : XS} {nr : Nat} (h : LIr st nr) : RtE st st nr := ⟨h.1, fun i hi => by obtain ⟨a1, a2, a3, a4, _, a5⟩ := h.2.2.2 i hi; exact ⟨a1, a2, a3, a4, a5⟩⟩
theorem kn_mtS {st u : XS} {nr : Nat} (h : RtE st u nr) (p k d : Int32) : knS st nr p k d = oI (mtS u nr p k d) := by
  unfold knS mtS
  rw [kn_mt (pl2 := ga u 48) (kn2 := ga u 49) (fr2 := ga u 51) (n := nr) (fun i hi => by obtain ⟨a1, a2, _, a4, a5⟩ := h.2 i hi; exact ⟨a1, a2, a4, a5⟩) p k d nr (Nat.le_refl _)]
theorem mtS_lt {u : XS} {nr : Nat} {p k d : Int32} {j : Nat} (h : mtS u nr p k d = some j) : j < nr := mtO_lt _ _ _ _ _ _ _ _ h
theorem rt_mr {st u : XS} {nr : Nat} (h : RtE st u nr) (p k d : Int32) : rtOf (ga st 15) (knS st nr p k d) = mrS u (mtS u nr p k d) := by
  rw [kn_mtS h]
  rcases ho : mtS u nr p k d with _ | j
  · rfl
  · have hj := mtS_lt ho
    have h60 := h.1
    show (if nI j = -1 then nI 0 else xget 60 (ga st 15) (nI j)) = ga u 50 j
    rw [if_neg (nI_ne1 (by omega)), xget_at (by omega) (by decide), (h.2 j hj).2.2.1]
theorem am_ma {Q P : Nat → Int32} {u : XS} {b k : Nat} (hk : k < 6) (h1 : ga u 65 (6 * b + k) = Q k) (h2 : ga u 66 (6 * b + k) = P k) : amS Q P (nI k) = maS u b k := by
  unfold amS maS
  rw [xget_at hk (by decide), xget_at hk (by decide), h1, h2]
theorem sum_ms {Q P : Nat → Int32} {u : XS} {b : Nat} : ∀ (n : Nat), n ≤ 6 → (∀ k, k < n → ga u 65 (6 * b + k) = Q k ∧ ga u 66 (6 * b + k) = P k) → sumA Q P n = msS u b n := by
  intro n
  induction n with
  | zero => intro _ _; rfl
  | succ n ih =>
    intro hn h
    rw [sumA, msS, ih (by omega) (fun k hk => h k (by omega)), am_ma (by omega) (h n (by omega)).1 (h n (by omega)).2]
/-- the lines of a bill, of the class and of the reference -/
def LnE (K Q P R : Nat → Int32) (u : XS) (b n : Nat) (kn : Nat → Nat) : Prop := n ≤ 6 ∧ ∀ k, k < n → kn k < 4 ∧ K k = nI (kn k) ∧ ga u 65 (6 * b + k) = Q k ∧ ga u 66 (6 * b + k) = P k ∧ ga u 70 k = R (kn k)
theorem tm_ma {K Q P R : Nat → Int32} {u : XS} {b n : Nat} {kn : Nat → Nat} (h : LnE K Q P R u b n kn) {k : Nat} (hk : k < n) : tmR K Q P R (nI k) = maS u b k * ga u 70 k := by
  obtain ⟨hn, h⟩ := h
  obtain ⟨h1, h2, h3, h4, h5⟩ := h k hk
  unfold tmR
  rw [am_ma (by omega) h3 h4, xget_at (n := 6) (f := K) (by omega) (by decide), h2, xget_at h1 (by decide), h5]
theorem txL_e {K Q P R : Nat → Int32} {u : XS} {b n : Nat} {kn : Nat → Nat} (h : LnE K Q P R u b n kn) : ∀ i, i ≤ n → txL K Q P R i = mlS u b i := by
  intro i
  induction i with
  | zero => intro _; rfl
  | succ i ih => intro hi; rw [txL, mlS, ih (by omega), tm_ma h (by omega)]
theorem txA_e {K Q P R : Nat → Int32} {u : XS} {b n : Nat} {kn : Nat → Nat} (h : LnE K Q P R u b n kn) : ∀ i, i ≤ n → txA K Q P R i = mallS u b i := by
  intro i
  induction i with
  | zero => intro _; rfl
  | succ i ih => intro hi; rw [txA, mallS, ih (by omega), tm_ma h (by omega)]
theorem txO_e {K Q P R : Nat → Int32} {u : XS} {b n : Nat} {kn : Nat → Nat} (h : LnE K Q P R u b n kn) {j : Nat} (hj : j < 4) : ∀ i, i ≤ n → txO K Q P R (nI j) i = msmF u kn b i j := by
  intro i
  induction i with
  | zero => intro _; rw [txO, msmF, fup_in hj]
  | succ i ih =>
    intro hi
    have h9 := h.2 i (by omega)
    rw [txO, msmF, ih (by omega), h9.2.1]
    by_cases e : kn i = j
    · rw [if_pos (by rw [e]), e, upd_at, tm_ma h (by omega)]
    · rw [if_neg (fun q => e ((nI_eq (by omega) (by omega)).mp q)), upd_ne _ _ (by omega), i_add0]
theorem txK_e {K Q P R : Nat → Int32} {u : XS} {b n : Nat} {kn : Nat → Nat} (h : LnE K Q P R u b n kn) : ∀ j, j ≤ 4 → txK K Q P R n j = mbkF (msmF u kn b n) j := by
  intro j
  induction j with
  | zero => intro _; rfl
  | succ j ih => intro hj; rw [txK, mbkF, ih (by omega), txO_e h (by omega) n (Nat.le_refl _)]
theorem tx_eq {K Q P R : Nat → Int32} {u : XS} {b n : Nat} {kn : Nat → Nat} {w : Int32} (h : LnE K Q P R u b n kn) (hw : ga u 63 b = w) : txB w K Q P R n = mtxN u kn b n := by
  unfold txB mtxN
  rw [hw, txL_e h n (Nat.le_refl _), txK_e h 4 (Nat.le_refl _), txA_e h n (Nat.le_refl _)]
  rfl
theorem mlrF_at {u : XS} {nr b n k : Nat} (hk : k < n) : mlrF u nr b n k = mrS u (mtS u nr (ga u 62 b) (ga u 64 (6 * b + k)) (ga u 60 b)) := by
  induction n with
  | zero => omega
  | succ n ih =>
    rw [mlrF]
    by_cases e : k = n
    · subst e; rw [upd_at]
    · rw [upd_ne _ _ e]; exact ih (by omega)
/-- the tax that is known now is the same -/
theorem tk_mn {st u : XS} {nr b n : Nat} {kn : Nat → Nat} (hn : n ≤ 6) (hr : RtE st u nr) (hp : ga u 62 b = gi st 7 (100 + 6 * b)) (hd : ga u 60 b = gi st 6 (100 + 6 * b)) (hw : ga u 63 b = gi st 8 (100 + 6 * b)) (hl : ∀ k, k < n → kn k < 4 ∧ bK st b k = nI (kn k) ∧ ga u 64 (6 * b + k) = nI (kn k) ∧ ga u 65 (6 * b + k) = bQ st b k ∧ ga u 66 (6 * b + k) = bP st b k) : tkN st nr b n = mnN u nr kn b n := by
  unfold tkN mnN
  refine tx_eq ⟨hn, fun k hk => ?_⟩ ?_
  · obtain ⟨h1, h2, h3, h4, h5⟩ := hl k hk
    refine ⟨h1, h2, ?_, ?_, ?_⟩
    · rw [ga_sa, if_neg (by decide)]; exact h4
    · rw [ga_sa, if_neg (by decide)]; exact h5
    · rw [ga_self, mlrF_at hk, tkS, ga_self, fup_in h1, rt_mr hr, h3, hp, hd]
  · rw [ga_sa, if_neg (by decide)]; exact hw
theorem mx_nt (st : XS) (b : Nat) : ∀ n, mxS st b n = ga st 68 b + ntS st b n := by
  intro n
  induction n with
  | zero => rw [mxS, ntS, i_add0]
  | succ n ih => rw [mxS, ntS, ih, Int32.add_assoc]
