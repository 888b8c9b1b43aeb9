/-! ===== what is written: a text, whatever place is asked for; what the writer leaves alone ===== -/
def WK (st v : XS) : Prop := (∀ f k, ¬ k = 3 → gi v f k = gi st f k) ∧ (∀ f k, ¬ k = 3 → gl v f k = gl st f k) ∧ (∀ f k, gp v f k = gp st f k) ∧ (∀ k, ¬ k = 12 → ga v k = ga st k) ∧ ∀ k, gb v k = gb st k
theorem WK_rf (st : XS) : WK st st := ⟨fun _ _ _ => rfl, fun _ _ _ => rfl, fun _ _ => rfl, fun _ _ => rfl, fun _ => rfl⟩
theorem WK_tr {a b c : XS} (h : WK a b) (g : WK b c) : WK a c :=
  ⟨fun f k q => (g.1 f k q).trans (h.1 f k q), fun f k q => (g.2.1 f k q).trans (h.2.1 f k q), fun f k => (g.2.2.1 f k).trans (h.2.2.1 f k), fun k q => (g.2.2.2.1 k q).trans (h.2.2.2.1 k q), fun k => (g.2.2.2.2 k).trans (h.2.2.2.2 k)⟩
theorem WK_wr (st : XS) (w : WS) (p : Int32) : WK st (wrS (si st 2 3 p) w) := by
  obtain ⟨dg, ln, lf, sm, c, kp⟩ := w
  refine ⟨fun f k q => ?_, fun f k q => ?_, fun f k => rfl, fun k q => ?_, fun k => rfl⟩
  · rw [wr_o _ _ _ _ _ _ _ (Or.inl q), gi_si, if_neg (fun z => q z.2)]
  · unfold wrS; rw [gl_si, gl_si, gl_sl, if_neg (fun z => q z.2), gl_sl, if_neg (fun z => q z.2)]; rfl
  · rw [wr_ga _ _ _ _ _ _ _ q, ga_si]
theorem numS_WK {st v : XS} (h : WK st v) (b n : Nat) (c idx : Int32) : numS v b n c idx = numS st b n c idx := by
  have h1 : ∀ f, gi v f (100 + 6 * b) = gi st f (100 + 6 * b) := fun f => h.1 f _ (by omega)
  have h2 : ∀ j, ga v (100 + 6 * b + j) = ga st (100 + 6 * b + j) := fun j => h.2.2.2.1 _ (by omega)
  unfold numS
  simp only [h1, h2]
theorem wPuts_get : ∀ (T : List Int32) (a q : Nat) (x : Int32), a + T.length < 2 ^ 31 → q < 2 ^ 31 → wPuts (nI q) (nI a, x) T = (nI (a + T.length), if a ≤ q ∧ q < a + T.length then T.getD (q - a) (nI 32) else x) := by
  intro T
  induction T with
  | nil => intro a q x _ _; rw [if_neg (by simp only [List.length_nil]; omega)]; rfl
  | cons c T ih =>
    intro a q x h hq
    rw [List.length_cons] at h
    show wPuts (nI q) (nI a + nI 1, if nI a = nI q then c else x) T = _
    rw [nI_add, ih (a + 1) q _ (by omega) hq, List.length_cons, show a + 1 + T.length = a + (T.length + 1) by omega]
    congr 1
    by_cases h1 : a = q
    · subst h1
      rw [if_neg (by omega), if_pos rfl, if_pos (by omega), Nat.sub_self]
      rfl
    · rw [if_neg (c := nI a = nI q) (fun z => h1 ((nI_eq (by omega) hq).mp z))]
      by_cases h2 : a ≤ q ∧ q < a + (T.length + 1)
      · rw [if_pos (by omega), if_pos h2, show q - a = q - (a + 1) + 1 by omega]
        rfl
      · rw [if_neg (by omega), if_neg h2]
/-- all that the writing of invoice b by the form wants, and its text T -/
def WOK (Ls : List Nat) (st : XS) (nB : Nat) (ln : Nat → Nat) (fz b : Nat) (T : List Int32) : Prop :=
  (∀ k, xC k = true → k ∈ Ls) ∧ nB ≤ 7 ∧ (∀ i, i < 30 → gb st 9 i = if i < nB then some (100 + 6 * i) else none) ∧ (∀ b, b ≤ nB → ∀ j, j < 6 → 100 + 6 * b + j ∈ Ls) ∧ (∀ b, b ≤ nB → ln b ≤ 6 ∧ gi st 3 (100 + 6 * b) = nI (ln b)) ∧
  (∀ i, i < 6 → gb st 6 i = if i < 1 then some (300 + 4 * 0) else none) ∧ (∀ i, i < 4 → 300 + 4 * 0 + i ∈ Ls) ∧ gi st 3 (300 + 4 * 0) = nI fz ∧ (∀ b, b < nB → 0 < ln b ∧ ∀ name idx, lnOk (ln b) idx → numS st b (ln b) name idx = nI (numS st b (ln b) name idx).toNatClampNeg) ∧ b < nB ∧ T.length < 1000 ∧
  ∀ (wn : Int32) (dg : Nat → Int32), (runS (ga st 301) (ga st 302) (ga st 303) (numS st b (ln b)) (ln b) wn (nI fz) 1000000 (nI 0, dg, -1, 0, 0, nI 0, nI 32)).2.2.2.2 = wPuts wn (nI 0, nI 32) T
theorem WOK_K {Ls : List Nat} {st v : XS} {nB : Nat} {ln : Nat → Nat} {fz b : Nat} {T : List Int32} (h : WOK Ls st nB ln fz b T) (hK : WK st v) : WOK Ls v nB ln fz b T := by
  obtain ⟨a1, a2, a3, a4, a5, a6, a7, a8, a9, a10, a11, a12⟩ := h
  refine ⟨a1, a2, fun i hi => (hK.2.2.2.2 9 ▸ a3 i hi), a4, fun b hb => ⟨(a5 b hb).1, (hK.1 3 _ (by omega)).trans (a5 b hb).2⟩, fun i hi => (hK.2.2.2.2 6 ▸ a6 i hi), a7, (hK.1 3 _ (by decide)).trans a8, fun b hb => ⟨(a9 b hb).1, fun c i hi => by rw [numS_WK hK]; exact (a9 b hb).2 c i hi⟩, a10, a11, fun wn dg => ?_⟩
  rw [hK.2.2.2.1 301 (by decide), hK.2.2.2.1 302 (by decide), hK.2.2.2.1 303 (by decide), show numS v b (ln b) = numS st b (ln b) from funext fun c => funext fun i => numS_WK hK b (ln b) c i]
  exact a12 wn dg
theorem wrt_T {Ls : List Nat} {st : XS} {nB : Nat} {ln : Nat → Nat} {fz b : Nat} {T : List Int32} (h : WOK Ls st nB ln fz b T) (wn : Int32) : (wrtS st b (ln b) 0 fz 1000000 wn).2.2.2.2 = wPuts wn (nI 0, nI 32) T := h.2.2.2.2.2.2.2.2.2.2.2 wn (ga st 12)
theorem wrt_q {Ls : List Nat} {st : XS} {nB : Nat} {ln : Nat → Nat} {fz b : Nat} {T : List Int32} (h : WOK Ls st nB ln fz b T) {q : Nat} (hq : q < 2 ^ 31) : (wrtS st b (ln b) 0 fz 1000000 (nI q)).2.2.2.2.2 = T.getD q (nI 32) := by
  have hl := h.2.2.2.2.2.2.2.2.2.2.1
  rw [wrt_T h, wPuts_get T 0 q _ (by omega) hq]
  show (if 0 ≤ q ∧ q < 0 + T.length then T.getD (q - 0) (nI 32) else nI 32) = _
  by_cases h1 : q < T.length
  · rw [if_pos (by omega)]; rfl
  · rw [if_neg (by omega), List.getD_eq_getElem?_getD, List.getElem?_eq_none (by omega)]; rfl
theorem wPuts_len (wn : Int32) : ∀ (T : List Int32) (x : Int32 × Int32) (a : Nat), x.1 = nI a → (wPuts wn x T).1 = nI (a + T.length) := by
  intro T
  induction T with
  | nil => intro x a h; exact h
  | cons c T ih => intro x a h; rw [List.length_cons, show a + (T.length + 1) = a + 1 + T.length by omega]; exact ih (wPut wn x c) (a + 1) (by show x.1 + nI 1 = _; rw [h, nI_add])
theorem wrt_len {Ls : List Nat} {st : XS} {nB : Nat} {ln : Nat → Nat} {fz b : Nat} {T : List Int32} (h : WOK Ls st nB ln fz b T) (wn : Int32) : (wrtS st b (ln b) 0 fz 1000000 wn).2.2.2.2.1 = nI T.length := by
  rw [wrt_T h, wPuts_len wn T _ 0 rfl, Nat.zero_add]
theorem bdI_no {n b : Nat} (h : b < n) (hn : n < 2 ^ 31) : bdI n (nI b) = false := by
  unfold bdI
  rw [decide_eq_false_iff_not]
  rintro (q | q)
  · exact nI_pos (by omega) q
  · exact q (nI_lt h hn)
theorem kWr_0 {nB b q : Nat} (hB : nB ≤ 30) (hb : b < nB) (hq : q < 2 ^ 31) : kWrit nB 1 (nI b) (nI 0) (nI q) = 0 := by
  unfold kWrit; rw [bdI_no hb (by omega), bdI_no (by decide) (by decide), if_pos (nI_pos' hq)]; rfl
theorem kLen_0 {nB b : Nat} (hB : nB ≤ 30) (hb : b < nB) : kLen nB 1 (nI b) (nI 0) = 0 := by
  unfold kLen; rw [bdI_no hb (by omega), bdI_no (by decide) (by decide)]; rfl
section
variable (l : Launch) (D : va_G) (cy : Nat → ClassId) (ad : Nat → Nat) {Ls : List Nat} {st : XS} {nB : Nat} {ln : Nat → Nat} {fz b : Nat} {T : List Int32}
theorem c_wr (hl0 : l.stackTraces = false) (h : WOK Ls st nB ln fz b T) (p9 : Int32) : xXi l yX7_written cX7_written 6 (some .char) 14 4 24 D cy ad Ls st [.ref (ad 0), .int (nI b), .int (nI 0), .int p9] (fun E => exK (kWrit nB 1 (nI b) (nI 0) p9) [eIOB] E) (fun r u => kWrit nB 1 (nI b) (nI 0) p9 = 0 ∧ ∃ b1 j : Nat, b1 < nB ∧ nI b = nI b1 ∧ j < 1 ∧ nI 0 = nI j ∧ r = (wrtS st b1 (ln b1) ((fun _ => 0) j) ((fun _ => fz) j) 1000000 p9).2.2.2.2.2 ∧ u = wrS (si st 2 3 p9) (wrtS st b1 (ln b1) ((fun _ => 0) j) ((fun _ => fz) j) 1000000 p9)) := by
  obtain ⟨a1, a2, a3, a4, a5, a6, a7, a8, a9, a10, a11, a12⟩ := h
  exact c_X7_written l hl0 D cy ad Ls st a1 nB (by omega) a3 a4 ln a5 1 (by decide) (fun _ => 0) (fun _ => fz) a6 (fun j _ => ⟨by decide, a7, a8⟩) a9 1000000 rfl (nI b) (nI 0) p9
theorem c_len (hl0 : l.stackTraces = false) (h : WOK Ls st nB ln fz b T) : xXi l yX7_length cX7_length 5 (some .int) 14 4 24 D cy ad Ls st [.ref (ad 0), .int (nI b), .int (nI 0)] (fun E => exK (kLen nB 1 (nI b) (nI 0)) [eIOB] E) (fun r u => kLen nB 1 (nI b) (nI 0) = 0 ∧ ∃ b1 j : Nat, b1 < nB ∧ nI b = nI b1 ∧ j < 1 ∧ nI 0 = nI j ∧ r = (wrtS st b1 (ln b1) ((fun _ => 0) j) ((fun _ => fz) j) 1000000 (-1)).2.2.2.2.1 ∧ u = wrS (si st 2 3 (-1)) (wrtS st b1 (ln b1) ((fun _ => 0) j) ((fun _ => fz) j) 1000000 (-1))) := by
  obtain ⟨a1, a2, a3, a4, a5, a6, a7, a8, a9, a10, a11, a12⟩ := h
  exact c_X7_length l hl0 D cy ad Ls st a1 nB (by omega) a3 a4 ln a5 1 (by decide) (fun _ => 0) (fun _ => fz) a6 (fun j _ => ⟨by decide, a7, a8⟩) a9 1000000 rfl (nI b) (nI 0)
end
theorem wr_post {Ls : List Nat} {st u : XS} {nB : Nat} {ln : Nat → Nat} {fz b q : Nat} {T : List Int32} {r : Int32} {k : Prop} (h : WOK Ls st nB ln fz b T) (hq : q < 2 ^ 31) (hp : k ∧ ∃ b1 j : Nat, b1 < nB ∧ nI b = nI b1 ∧ j < 1 ∧ nI 0 = nI j ∧ r = (wrtS st b1 (ln b1) ((fun _ => 0) j) ((fun _ => fz) j) 1000000 (nI q)).2.2.2.2.2 ∧ u = wrS (si st 2 3 (nI q)) (wrtS st b1 (ln b1) ((fun _ => 0) j) ((fun _ => fz) j) 1000000 (nI q))) : r = T.getD q (nI 32) ∧ WK st u := by
  obtain ⟨-, b1, j, h1, h2, h3, h4, h5, h6⟩ := hp
  have hb := h.2.2.2.2.2.2.2.2.2.1
  have hB := h.2.1
  have e := (nI_eq (by omega) (by omega)).mp h2
  subst e
  exact ⟨h5.trans (wrt_q h hq), by rw [h6]; exact WK_wr ..⟩
theorem len_post {Ls : List Nat} {st u : XS} {nB : Nat} {ln : Nat → Nat} {fz b : Nat} {T : List Int32} {r : Int32} {k : Prop} (h : WOK Ls st nB ln fz b T) (hp : k ∧ ∃ b1 j : Nat, b1 < nB ∧ nI b = nI b1 ∧ j < 1 ∧ nI 0 = nI j ∧ r = (wrtS st b1 (ln b1) ((fun _ => 0) j) ((fun _ => fz) j) 1000000 (-1)).2.2.2.2.1 ∧ u = wrS (si st 2 3 (-1)) (wrtS st b1 (ln b1) ((fun _ => 0) j) ((fun _ => fz) j) 1000000 (-1))) : r = nI T.length ∧ WK st u := by
  obtain ⟨-, b1, j, h1, h2, h3, h4, h5, h6⟩ := hp
  have hb := h.2.2.2.2.2.2.2.2.2.1
  have hB := h.2.1
  have e := (nI_eq (by omega) (by omega)).mp h2
  subst e
  exact ⟨h5.trans (wrt_len h (-1)), by rw [h6]; exact WK_wr ..⟩
/-! a number, digit by digit -/
theorem dsz_s {k m : Nat} (h : ¬ m / 10 = 0) : dsz (k + 1) m = dsz k (m / 10) + 1 := by rw [dsz, if_neg h]
theorem dsz_lt10 {k m : Nat} (h : m < 10) : dsz k m = 1 := by
  cases k with
  | zero => rfl
  | succ k => rw [dsz, if_pos (by omega)]
theorem dgT_len (m : Nat) : ∀ t, (dgT m t).length = t := by
  intro t
  induction t with
  | zero => rfl
  | succ t ih => rw [dgT, List.length_cons, ih]
theorem numT_len (m w : Nat) : (numT m w).length = (w - dsz 9 m) + dsz 9 m := by
  unfold numT; rw [List.length_append, List.length_replicate, dgT_len]
theorem numT_sp {m w i : Nat} (h : i < w - dsz 9 m) : (numT m w).getD i (nI 32) = nI 32 := by
  unfold numT
  rw [List.getD_eq_getElem?_getD, List.getElem?_append_left (by rw [List.length_replicate]; exact h), List.getElem?_replicate, if_pos h]; rfl
theorem dgT_at (m : Nat) : ∀ t i, i < t → (dgT m t).getD i (nI 32) = nI (48 + m / 10 ^ (t - 1 - i) % 10) := by
  intro t
  induction t with
  | zero => intro i h; omega
  | succ t ih =>
    intro i h
    rcases i with _ | i
    · rfl
    · show (dgT m t).getD i (nI 32) = _
      rw [ih i (by omega), show t + 1 - 1 - (i + 1) = t - 1 - i by omega]
theorem numT_dg {m w c : Nat} (hc : c < dsz 9 m) : (numT m w).getD ((w - dsz 9 m) + (dsz 9 m - (c + 1))) (nI 32) = nI (48 + m / 10 ^ c % 10) := by
  unfold numT
  rw [List.getD_eq_getElem?_getD, List.getElem?_append_right (by rw [List.length_replicate]; omega), List.length_replicate, Nat.add_sub_cancel_left, ← List.getD_eq_getElem?_getD, dgT_at m _ _ (by omega), show dsz 9 m - 1 - (dsz 9 m - (c + 1)) = c by omega]
/-- the power of a digit, 0 behind the last -/
def pwr : Nat → Nat
  | 0 => 0
  | c + 1 => 10 ^ c
theorem pwr_10 (c : Nat) : pwr (c + 1) / 10 = pwr c := by
  cases c with
  | zero => rfl
  | succ c => show 10 ^ (c + 1) / 10 = 10 ^ c; rw [Nat.pow_succ, Nat.mul_div_cancel _ (by decide)]
theorem pwr_lt {c : Nat} (h : c ≤ 9) : pwr c < 2 ^ 31 := by
  cases c with
  | zero => decide
  | succ c => exact Nat.lt_of_le_of_lt (Nat.pow_le_pow_right (by decide) (show c ≤ 8 by omega)) (by decide)
theorem pow_lt9 {t : Nat} (h : t ≤ 8) : 10 ^ t < 2 ^ 31 := Nat.lt_of_le_of_lt (Nat.pow_le_pow_right (by decide) h) (by decide)
theorem dsz_le9 {m : Nat} (h : m < 10 ^ 9) : dsz 9 m ≤ 9 := by
  have : ∀ k m, m < 10 ^ (k + 1) → dsz (k + 1) m ≤ k + 1 := by
    intro k
    induction k with
    | zero => intro m h; rw [dsz_lt10 (by omega)]; exact Nat.le_refl _
    | succ k ih =>
      intro m h
      by_cases h0 : m / 10 = 0
      · rw [dsz, if_pos h0]; omega
      · rw [dsz_s h0]
        have := ih (m / 10) (by rw [Nat.pow_succ] at h; omega)
        omega
  exact this 8 m h
theorem dsz_step {m t : Nat} (h : dsz 9 m = t + dsz (9 - t) (m / 10 ^ t)) (ht : t ≤ 8) (hc : 10 ≤ m / 10 ^ t) (hm : m < 10 ^ 9) : dsz 9 m = (t + 1) + dsz (9 - (t + 1)) (m / 10 ^ (t + 1)) ∧ t + 1 ≤ 8 := by
  have e1 : m / 10 ^ (t + 1) = m / 10 ^ t / 10 := by rw [Nat.pow_succ, Nat.div_div_eq_div_mul]
  obtain ⟨k, hk⟩ : ∃ k, 9 - t = k + 1 := ⟨8 - t, by omega⟩
  rw [hk, dsz_s (k := k) (m := m / 10 ^ t) (by omega)] at h
  refine ⟨by rw [show 9 - (t + 1) = k by omega, e1]; omega, ?_⟩
  rcases Nat.lt_or_ge t 8 with q | q
  · exact q
  · have e : t = 8 := by omega
    subst e
    omega
/-! ===== the page's signs are counted ===== -/
def bcn (n : Nat) : Nat → Nat
  | 0 => 0
  | k + 1 => bcn n k + (if n / 256 ^ k % 256 = 0 then 0 else 1)
theorem bcn_s (n : Nat) : ∀ k, bcn n (k + 1) = (if n % 256 = 0 then 0 else 1) + bcn (n / 256) k := by
  intro k
  induction k with
  | zero => rw [bcn, bcn, bcn, Nat.pow_zero, Nat.div_one, Nat.zero_add]; rfl
  | succ k ih => rw [bcn, ih, bcn, Nat.add_assoc, Nat.div_div_eq_div_mul, show 256 * 256 ^ k = 256 ^ (k + 1) by rw [Nat.pow_succ, Nat.mul_comm]]
theorem bcn_0 : ∀ k, bcn 0 k = 0 := by
  intro k
  induction k with
  | zero => rfl
  | succ k ih => rw [bcn, ih, Nat.zero_div]; rfl
theorem csN_b : ∀ (k n c j : Nat), csN k n c = some j → n < 256 ^ k → c + k = 8 → j = c + bcn n k := by
  intro k
  induction k with
  | zero => intro n c j h hn hc; rw [csN] at h; cases h; rw [bcn]; omega
  | succ k ih =>
    intro n c j h hn hc
    rw [csN] at h
    rw [bcn_s]
    by_cases h1 : n % 256 = 0
    · rw [if_pos h1] at h
      by_cases h2 : n = 0
      · rw [if_pos h2] at h; cases h; subst h2; rw [if_pos rfl, Nat.zero_div, bcn_0]; rfl
      · rw [if_neg h2] at h; cases h
    · rw [if_neg h1] at h
      by_cases h2 : n % 256 < 32 ∨ 126 < n % 256
      · rw [if_pos h2] at h; cases h
      · rw [if_neg h2] at h
        have := ih _ _ _ h (by rw [Nat.pow_succ] at hn; omega) (by omega)
        rw [if_neg h1]; omega
theorem wb_sar {n k : Nat} (hn : n < 2 ^ 63) (hk : k < 64) : lN n >>> ((nI k).toInt64 &&& 63) = lN (n / 2 ^ k) := by
  rw [wb_c k hk]
  apply Int64.toInt_inj.mp
  have e : ((lN k).toBitVec.smod 64).toNat = k := by rw [wb_tb, wb_sm k hk, BitVec.toNat_ofNat, Nat.mod_eq_of_lt (by omega)]
  show ((lN n).toBitVec.sshiftRight ((lN k).toBitVec.smod 64).toNat).toInt = _
  rw [e, BitVec.toInt_sshiftRight]
  have h1 : (lN n).toBitVec.toInt = (n : Int) := pk_lT hn
  rw [pk_lT (Nat.lt_of_le_of_lt (Nat.div_le_self _ _) hn), h1, Int.shiftRight_eq_div_pow]
  rfl
theorem wb_b8 {n k : Nat} (hn : n < 2 ^ 63) (hk : k < 8) : lN n >>> ((nI (8 * k)).toInt64 &&& 63) &&& 255 = lN (n / 256 ^ k % 256) := by
  rw [wb_sar hn (by omega), wb_m8 (Nat.lt_of_le_of_lt (Nat.div_le_self _ _) (Nat.lt_trans hn (by decide))), show 256 ^ k = 2 ^ (8 * k) by rw [show (256 : Nat) = 2 ^ 8 from rfl, ← Nat.pow_mul]]
/-- the page behind a typing -/
def tyS (st : XS) (np n j : Nat) : XS := si (sa st 11 (apF (ga st 11) np n j)) 1 2 (nI (np + j))
theorem tyS_0 {st : XS} {np n : Nat} (h : gi st 1 2 = nI np) : tyS st np n 0 = st := by
  unfold tyS
  show si (sa st 11 (ga st 11)) 1 2 (nI np) = st
  rw [sa_id]
  refine XS_ext (fun f k => ?_) (fun _ _ => rfl) (fun _ _ => rfl) (fun _ => rfl) (fun _ => rfl)
  rw [gi_si]
  split
  · next q => rw [q.1, q.2, h]
  · rfl
