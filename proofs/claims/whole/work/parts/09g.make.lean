/-! ===== make: the new invoice ===== -/
theorem hun_N {y : Nat} (h : y < 2 ^ 30) : hun (nI y) = nI ((y + 50) / 100) := by
  unfold hun; rw [nI_add, pk_div (by omega) (by decide) (by decide)]
/-- the lines' taxes as numbers -/
def TmN (K Q P R : Nat → Int32) (n : Nat) : Prop := n ≤ 6 ∧ ∀ k, k < n → ∃ v, v ≤ 98990100 ∧ tmR K Q P R (nI k) = nI v
theorem txL_N {K Q P R : Nat → Int32} {n : Nat} (h : TmN K Q P R n) : ∀ i, i ≤ n → ∃ x, x ≤ i * 989902 ∧ txL K Q P R i = nI x := by
  intro i
  induction i with
  | zero => intro _; exact ⟨0, Nat.le_refl _, rfl⟩
  | succ i ih =>
    intro hi
    have h6 := h.1
    obtain ⟨x, h1, h2⟩ := ih (by omega)
    obtain ⟨v, h3, h4⟩ := h.2 i (by omega)
    exact ⟨x + (v + 50) / 100, by omega, by rw [txL, h2, h4, hun_N (by omega), nI_add]⟩
theorem txA_N {K Q P R : Nat → Int32} {n : Nat} (h : TmN K Q P R n) : ∀ i, i ≤ n → ∃ x, x ≤ i * 98990100 ∧ txA K Q P R i = nI x := by
  intro i
  induction i with
  | zero => intro _; exact ⟨0, Nat.le_refl _, rfl⟩
  | succ i ih =>
    intro hi
    obtain ⟨x, h1, h2⟩ := ih (by omega)
    obtain ⟨v, h3, h4⟩ := h.2 i (by omega)
    exact ⟨x + v, by omega, by rw [txA, h2, h4, nI_add]⟩
theorem txO_N {K Q P R : Nat → Int32} {n : Nat} (h : TmN K Q P R n) (kd9 : Int32) : ∀ i, i ≤ n → ∃ x, x ≤ i * 98990100 ∧ txO K Q P R kd9 i = nI x := by
  intro i
  induction i with
  | zero => intro _; exact ⟨0, Nat.le_refl _, rfl⟩
  | succ i ih =>
    intro hi
    obtain ⟨x, h1, h2⟩ := ih (by omega)
    obtain ⟨v, h3, h4⟩ := h.2 i (by omega)
    rw [txO, h2]
    by_cases e : K i = kd9
    · rw [if_pos e, h4, nI_add]; exact ⟨x + v, by omega, rfl⟩
    · rw [if_neg e, i_add0]; exact ⟨x, Nat.le_trans h1 (Nat.mul_le_mul_right _ (Nat.le_succ i)), rfl⟩
theorem txK_N {K Q P R : Nat → Int32} {n : Nat} (h : TmN K Q P R n) : ∀ j, j ≤ 4 → ∃ x, x ≤ j * 5939407 ∧ txK K Q P R n j = nI x := by
  intro j
  induction j with
  | zero => intro _; exact ⟨0, Nat.le_refl _, rfl⟩
  | succ j ih =>
    intro hj
    have h6 := h.1
    obtain ⟨x, h1, h2⟩ := ih (by omega)
    obtain ⟨v, h3, h4⟩ := txO_N h (nI j) n (Nat.le_refl _)
    exact ⟨x + (v + 50) / 100, by omega, by rw [txK, h2, h4, hun_N (by omega), nI_add]⟩
theorem txB_N {K Q P R : Nat → Int32} {n : Nat} (h : TmN K Q P R n) (w : Int32) : ∃ x, x ≤ 600000000 ∧ txB w K Q P R n = nI x := by
  have h6 := h.1
  unfold txB
  split
  · obtain ⟨x, h1, h2⟩ := txL_N h n (Nat.le_refl _); exact ⟨x, by omega, h2⟩
  · split
    · obtain ⟨x, h1, h2⟩ := txK_N h 4 (Nat.le_refl _); exact ⟨x, by omega, h2⟩
    · obtain ⟨x, h1, h2⟩ := txA_N h n (Nat.le_refl _); exact ⟨(x + 50) / 100, by omega, by rw [h2, hun_N (by omega)]⟩
theorem TmN_of {K Q P R : Nat → Int32} {n : Nat} (hn : n ≤ 6) (h : ∀ k, k < n → ∃ kk q p r, kk < 4 ∧ q ≤ 99 ∧ p ≤ 9999 ∧ r ≤ 100 ∧ K k = nI kk ∧ Q k = nI q ∧ P k = nI p ∧ R kk = nI r) : TmN K Q P R n := by
  refine ⟨hn, fun k hk => ?_⟩
  obtain ⟨kk, q, p, r, h1, h2, h3, h4, h5, h6, h7, h8⟩ := h k hk
  have e1 : q * p ≤ 99 * 9999 := Nat.mul_le_mul h2 h3
  have e2 : q * p * r ≤ 99 * 9999 * 100 := Nat.mul_le_mul e1 h4
  refine ⟨q * p * r, by omega, ?_⟩
  unfold tmR amS
  rw [xget_at (by omega) (by decide), xget_at (by omega) (by decide), xget_at (by omega) (by decide), h5, h6, h7, xget_at h1 (by decide), h8, pk_mul, pk_mul]
theorem mrS_N {st : XS} {nr : Nat} (hr : LIr st nr) {o : Option Nat} (ho : ∀ j, o = some j → j < nr) : ∃ r, r ≤ 100 ∧ mrS st o = nI r := by
  rcases o with _ | j
  · exact ⟨0, by decide, rfl⟩
  · obtain ⟨_, _, b3, _, ⟨h, b5, b6⟩, _⟩ := hr.2.2.2 j (ho j rfl)
    exact ⟨h, b5, b3.trans b6⟩
section MK
variable {st : XS} {nr b n : Nat} {c9 : Int32}
theorem mk_gi (f k : Nat) : gi (mk7 st nr b n c9) f k = if k = 100 + 6 * (b + 1) then 0 else if f = 10 ∧ k = 0 then nI (b + 1) else if f = 11 ∧ k = 100 + 6 * b then txB (gi (mk3 st nr b c9) 8 (100 + 6 * b)) (bK (mk3 st nr b c9) b) (bQ (mk3 st nr b c9) b) (bP (mk3 st nr b c9) b) (ga (mk3 st nr b c9) (100 + 6 * b + 5)) n else if f = 8 ∧ k = 100 + 6 * b then xget 4 (ga st 7) (xget 10 (ga st 8) c9) else if f = 7 ∧ k = 100 + 6 * b then xget 10 (ga st 8) c9 else if f = 6 ∧ k = 100 + 6 * b then gi st 4 0 else if f = 5 ∧ k = 100 + 6 * b then c9 else if f = 4 ∧ k = 100 + 6 * b then nI b else gi st f k := rfl
theorem mk_ga (k : Nat) : ga (mk7 st nr b n c9) k = if 100 + 6 * (b + 1) ≤ k ∧ k < 100 + 6 * (b + 1) + 6 then (fun _ => 0) else ga (mk3 st nr b c9) k := rfl
theorem mk_gp (f k : Nat) : gp (mk7 st nr b n c9) f k = if f = 8 ∧ k = 0 then some (100 + 6 * (b + 1)) else gp st f k := rfl
theorem mk_gb (k : Nat) : gb (mk7 st nr b n c9) k = if k = 9 then (fun z => if z = b then some (100 + 6 * b) else gb st 9 z) else gb st k := rfl
theorem mk3_ga {k : Nat} (h1 : ¬ k = 100 + 6 * b + 4) (h2 : ¬ k = 100 + 6 * b + 5) : ga (mk3 st nr b c9) k = ga st k := by
  unfold mk3; rw [ga_sa, if_neg h2]; unfold mk2; rw [ga_sa, if_neg h1]; rfl
theorem mk3_8 : gi (mk3 st nr b c9) 8 (100 + 6 * b) = xget 4 (ga st 7) (xget 10 (ga st 8) c9) := if_pos ⟨rfl, rfl⟩
theorem mk3_R (hb : b < 33) {kk : Nat} (hk : kk < 4) : ga (mk3 st nr b c9) (100 + 6 * b + 5) kk = rtOf (ga st 15) (knS st nr (xget 10 (ga st 8) c9) (nI kk) (gi st 4 0)) := by
  unfold mk3
  rw [ga_self, fup_in hk]
  unfold mk2
  rw [knS_sa (kd_b4 hb), ga_sa, if_neg (by omega)]
  rfl
theorem mk3_T {kk : Nat} (hk : kk < 4) : ga (mk3 st nr b c9) (100 + 6 * b + 4) kk = knS st nr (xget 10 (ga st 8) c9) (nI kk) (gi st 4 0) := by
  unfold mk3
  rw [ga_sa, if_neg (by omega)]
  unfold mk2
  rw [ga_self, fup_in hk]
  rfl
end MK
theorem fcp_out {f : Nat → Int32} {m : Nat} {g : Nat → Int32} {n i : Nat} (h : i < m ∨ m + n ≤ i) : fcp f m g n i = f i := by
  induction n with
  | zero => rfl
  | succ n ih => show upd (fcp f m g n) (m + n) (g n) i = f i; rw [upd_ne _ _ (by omega)]; exact ih (by omega)
section MZ
variable {U : XS} {nt b n pl : Nat} {dk : Nat → Nat} {c9 td : Int32}
theorem mz_gi (f k : Nat) : gi (mkZ U nt b n pl dk c9 td) f k = if f = 28 ∧ k = 30 then nI (b + 1) else if f = 24 ∧ k = 30 then nI 0 else if f = 0 ∧ k = 30 then nI 0 else gi U f k := rfl
theorem mz_gl (f k : Nat) : gl (mkZ U nt b n pl dk c9 td) f k = gl U f k := rfl
theorem mz_gp (f k : Nat) : gp (mkZ U nt b n pl dk c9 td) f k = gp U f k := rfl
theorem mz_gb (k : Nat) : gb (mkZ U nt b n pl dk c9 td) k = gb U k := rfl
theorem mz_ga (k : Nat) : ga (mkZ U nt b n pl dk c9 td) k = if k = 68 then upd (ga U 68) b (mtxN (mkV U nt b n pl c9 td n) dk b n) else if k = 69 then msmF (mkV U nt b n pl c9 td n) dk b n else if k = 70 then fup (ga U 70) (fun i => mrS U (mkT U nt pl td i)) n else if k = 67 then fcp (ga U 67) (6 * b) (fun i => oI (mkT U nt pl td i)) n else if k = 66 then fcp (ga U 66) (6 * b) (ga U 57) n else if k = 65 then fcp (ga U 65) (6 * b) (ga U 56) n else if k = 64 then fcp (ga U 64) (6 * b) (ga U 55) n else if k = 63 then upd (ga U 63) b (ga U 52 pl) else if k = 62 then upd (ga U 62) b (nI pl) else if k = 61 then upd (ga U 61) b (nI n) else if k = 60 then upd (ga U 60) b td else if k = 59 then upd (ga U 59) b c9 else ga U k := rfl
theorem mv_ga (k : Nat) : ga (mkV U nt b n pl c9 td n) k = if k = 70 then fup (ga U 70) (fun i => mrS U (mkT U nt pl td i)) n else if k = 67 then fcp (ga U 67) (6 * b) (fun i => oI (mkT U nt pl td i)) n else if k = 66 then fcp (ga U 66) (6 * b) (ga U 57) n else if k = 65 then fcp (ga U 65) (6 * b) (ga U 56) n else if k = 64 then fcp (ga U 64) (6 * b) (ga U 55) n else if k = 63 then upd (ga U 63) b (ga U 52 pl) else if k = 62 then upd (ga U 62) b (nI pl) else if k = 61 then upd (ga U 61) b (nI n) else if k = 60 then upd (ga U 60) b td else if k = 59 then upd (ga U 59) b c9 else ga U k := rfl
end MZ
theorem ntS_0 {st : XS} {nB nl : Nat} (h30 : nB ≤ 30) (h : ∀ i, i < nl → ∃ b, b < nB ∧ ga st 72 i = nI b) : ∀ i, i ≤ nl → ntS st nB i = nI 0 := by
  intro i
  induction i with
  | zero => intro _; rfl
  | succ i ih =>
    intro hi
    obtain ⟨b, h1, h2⟩ := h i (by omega)
    rw [ntS, ih (by omega), h2, if_neg (fun q => absurd ((nI_eq (by omega) (by omega)).mp q) (by omega)), i_add0]
