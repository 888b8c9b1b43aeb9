/-! ===== what the form writes ===== -/
def lnT (bd k kk am x q : Nat) : List Int32 := numT (k + 1) 3 ++ ((if x + bd < am then nI 65 :: numT kk 0 else nI 66 :: nI 42 :: numT q 0) ++ [nI 59])
def lnsT (f : Nat → List Int32) : Nat → List Int32
  | 0 => []
  | k + 1 => lnsT f k ++ f k
def txT (b : Nat) (lines : List Int32) (s t : Nat) : List Int32 := (numT b 0 ++ [nI 58]) ++ (lines ++ ((if s = t then [nI 33] else []) ++ numT (s + t) 9))
theorem wPuts_1 (wn : Int32) (x : Int32 × Int32) (c : Int32) : wPuts wn x [c] = wPut wn x c := rfl
theorem wPuts_c (wn : Int32) (x : Int32 × Int32) (c : Int32) (l : List Int32) : wPuts wn x (c :: l) = wPuts wn (wPut wn x c) l := rfl
/-- the form's codes -/
def FRc (bd : Nat) (D F S : Nat → Int32) : Prop := ∀ j, j < 23 → D j = fD.getD j 0 ∧ F j = fF.getD j 0 ∧ S j = (fS bd).getD j 0
section
variable {bd : Nat} {D F S : Nat → Int32} {nm : Int32 → Int32 → Int32} {n : Nat} {wn : Int32}
theorem rn_step {k j : Nat} {w : WS} (hj : j < 23) (hk : 0 < k) : runS D F S nm n wn (nI 23) k (nI j, w) = runS D F S nm n wn (nI 23) (k - 1) (stepS D F S nm n wn (nI j) w) := by
  obtain ⟨k, rfl⟩ : ∃ q, k = q + 1 := ⟨k - 1, by omega⟩
  rw [runS, if_pos (nI_lt hj (by decide))]; rfl
theorem rn_x {f : Nat → Int32} {j : Nat} (hj : j < 23) : xget 160 f (nI j) = f j := xget_nI (by omega) (by decide)
variable (dg : Nat → Int32) (ln : Int32) (lf sm : Int64) (q : Int32 × Int32)
theorem sg0 (h : FRc bd D F S) {j : Nat} {c : Int32} (hj : j < 23) (h1 : fD.getD j 0 = 0) (h2 : chr (fF.getD j 0) = c) {k : Nat} (hk : 0 < k) : runS D F S nm n wn (nI 23) k (nI j, dg, ln, lf, sm, q) = runS D F S nm n wn (nI 23) (k - 1) (nI (j + 1), dg, ln, lf, sm, wPut wn q c) := by
  obtain ⟨a1, a2, a3⟩ := h j hj
  rw [rn_step hj hk]
  unfold stepS
  rw [rn_x (f := D) hj, rn_x (f := F) hj, a1, a2, h1, if_pos (by decide), h2, nI_add]
theorem sg1 (h : FRc bd D F S) {j w m : Nat} {c : Int32} (hj : j < 23) (h1 : fD.getD j 0 = 1) (h2 : chr (fF.getD j 0) = c) (h3 : (fS bd).getD j 0 = nI w) (hw : w < 10) (hm : nm c ln = nI m) (hm2 : m < 2 ^ 31) {k : Nat} (hk : 0 < k) : ∃ dg2, runS D F S nm n wn (nI 23) k (nI j, dg, ln, lf, sm, q) = runS D F S nm n wn (nI 23) (k - 1) (nI (j + 1), dg2, ln, lf, sm, wPuts wn q (numT m w)) := by
  obtain ⟨a1, a2, a3⟩ := h j hj
  rw [rn_step hj hk]
  unfold stepS
  rw [rn_x (f := D) hj, rn_x (f := F) hj, rn_x (f := S) hj, a1, a2, a3, h1, h2, h3, if_neg (by decide), if_pos (by decide), nI_add, hm, nI_clamp hm2, nI_clamp (by omega)]
  exact ⟨_, rfl⟩
theorem sg2 (h : FRc bd D F S) {j m : Nat} {c : Int32} (hj : j < 23) (h1 : fD.getD j 0 = 2) (h2 : chr (fF.getD j 0) = c) (h4 : ¬ fF.getD j 0 = 0) (hm : nm c ln = nI m) (hm2 : m < 2 ^ 31) {k : Nat} (hk : 0 < k) : runS D F S nm n wn (nI 23) k (nI j, dg, ln, lf, sm, q) = runS D F S nm n wn (nI 23) (k - 1) (nI (j + 1), dg, ln, lf, sm + lN m, q) := by
  obtain ⟨a1, a2, a3⟩ := h j hj
  rw [rn_step hj hk]
  unfold stepS
  rw [rn_x (f := D) hj, rn_x (f := F) hj, rn_x (f := S) hj, a1, a2, a3, h1, h2, if_neg (by decide), if_neg (by decide), if_pos (by decide), nI_add, if_neg h4, hm, nI_l hm2]
theorem sg2c (h : FRc bd D F S) (hbd : bd < 1000) {k : Nat} (hk : 0 < k) : runS D F S nm n wn (nI 23) k (nI 7, dg, ln, lf, sm, q) = runS D F S nm n wn (nI 23) (k - 1) (nI 8, dg, ln, lf, sm + lN bd, q) := by
  obtain ⟨a1, a2, a3⟩ := h 7 (by decide)
  rw [rn_step (by decide) hk]
  unfold stepS
  rw [rn_x (f := D) (by decide), rn_x (f := F) (by decide), rn_x (f := S) (by decide), a1, a2, a3, show fD.getD 7 0 = 2 from rfl, show fF.getD 7 0 = 0 from rfl, show (fS bd).getD 7 0 = nI bd from rfl, if_neg (by decide), if_neg (by decide), if_pos (by decide), if_pos (by decide), nI_add, nI_l (by omega)]
theorem sg4 (h : FRc bd D F S) {j : Nat} (hj : j < 23) (h1 : fD.getD j 0 = 4) {k : Nat} (hk : 0 < k) : runS D F S nm n wn (nI 23) k (nI j, dg, ln, lf, sm, q) = runS D F S nm n wn (nI 23) (k - 1) (nI (j + 1), dg, ln, sm, 0, q) := by
  obtain ⟨a1, a2, a3⟩ := h j hj
  rw [rn_step hj hk]
  unfold stepS
  rw [rn_x (f := D) hj, a1, h1, if_neg (by decide), if_neg (by decide), if_neg (by decide), if_neg (by decide), if_pos (by decide), nI_add]
theorem sg5 (h : FRc bd D F S) {j j2 : Nat} {c : Int32} (hj : j < 23) (h1 : fD.getD j 0 = 5) (h2 : chr (fF.getD j 0) = c) (h3 : (fS bd).getD j 0 = nI j2) {k : Nat} (hk : 0 < k) : runS D F S nm n wn (nI 23) k (nI j, dg, ln, lf, sm, q) = runS D F S nm n wn (nI 23) (k - 1) ((if cmpR c lf sm then nI (j + 1) else nI j2), dg, ln, lf, 0, q) := by
  obtain ⟨a1, a2, a3⟩ := h j hj
  rw [rn_step hj hk]
  unfold stepS
  rw [rn_x (f := D) hj, rn_x (f := F) hj, rn_x (f := S) hj, a1, a2, a3, h1, h2, h3, if_neg (by decide), if_neg (by decide), if_neg (by decide), if_neg (by decide), if_neg (by decide), if_pos (by decide), nI_add]
theorem sg6 (h : FRc bd D F S) {k : Nat} (hk : 0 < k) : runS D F S nm n wn (nI 23) k (nI 11, dg, ln, lf, sm, q) = runS D F S nm n wn (nI 23) (k - 1) (nI 15, dg, ln, lf, sm, q) := by
  obtain ⟨a1, a2, a3⟩ := h 11 (by decide)
  rw [rn_step (by decide) hk]
  unfold stepS
  rw [rn_x (f := D) (by decide), rn_x (f := S) (by decide), a1, a3, show fD.getD 11 0 = 6 from rfl, show (fS bd).getD 11 0 = nI 15 from rfl, if_neg (by decide), if_neg (by decide), if_neg (by decide), if_neg (by decide), if_neg (by decide), if_neg (by decide), if_pos (by decide)]
theorem sg7 (h : FRc bd D F S) {k : Nat} (hk : 0 < k) : runS D F S nm n wn (nI 23) k (nI 2, dg, ln, lf, sm, q) = runS D F S nm n wn (nI 23) (k - 1) (nI 3, dg, nI 0, lf, sm, q) := by
  obtain ⟨a1, a2, a3⟩ := h 2 (by decide)
  rw [rn_step (by decide) hk]
  unfold stepS
  rw [rn_x (f := D) (by decide), a1, show fD.getD 2 0 = 7 from rfl, if_neg (by decide), if_neg (by decide), if_neg (by decide), if_neg (by decide), if_neg (by decide), if_neg (by decide), if_neg (by decide), if_pos (by decide), nI_add]
theorem sg8 (h : FRc bd D F S) {i k : Nat} (hn : n ≤ 6) (hi : i < n) (hk : 0 < k) : runS D F S nm n wn (nI 23) k (nI 16, dg, nI i, lf, sm, q) = if i + 1 < n then runS D F S nm n wn (nI 23) (k - 1) (nI 3, dg, nI (i + 1), lf, sm, q) else runS D F S nm n wn (nI 23) (k - 1) (nI 17, dg, -1, lf, sm, q) := by
  obtain ⟨a1, a2, a3⟩ := h 16 (by decide)
  rw [rn_step (by decide) hk]
  unfold stepS
  rw [rn_x (f := D) (by decide), rn_x (f := S) (by decide), a1, a3, show fD.getD 16 0 = 8 from rfl, show (fS bd).getD 16 0 = nI 3 from rfl, if_neg (by decide), if_neg (by decide), if_neg (by decide), if_neg (by decide), if_neg (by decide), if_neg (by decide), if_neg (by decide), if_neg (by decide)]
  show runS _ _ _ _ _ _ _ _ (if ¬ nI i + nI 1 < 0 ∧ nI i + nI 1 < nI n then _ else _) = _
  rw [nI_add]
  by_cases e : i + 1 < n
  · rw [if_pos e, if_pos ⟨nI_pos (by omega), nI_lt e (by omega)⟩]
  · rw [if_neg e, if_neg (fun z => nI_nlt (show n ≤ i + 1 by omega) (by omega) z.2), nI_add]
end
/-- the numbers of a line -/
def NmL (nm : Int32 → Int32 → Int32) (i kk am x q : Nat) : Prop := nm (nI 105) (nI i) = nI (i + 1) ∧ nm (nI 97) (nI i) = nI am ∧ nm (nI 120) (nI i) = nI x ∧ nm (nI 107) (nI i) = nI kk ∧ nm (nI 113) (nI i) = nI q ∧ i < 6 ∧ kk < 4 ∧ am < 2 ^ 30 ∧ x < 2 ^ 30 ∧ q < 2 ^ 30
section
variable {bd : Nat} {D F S : Nat → Int32} {nm : Int32 → Int32 → Int32} {n : Nat} {wn : Int32}
theorem run_line (h : FRc bd D F S) (hbd : bd < 1000) (dg : Nat → Int32) (lf : Int64) (qq : Int32 × Int32) {i kk am x q k : Nat} (hN : NmL nm i kk am x q) (hk : 13 ≤ k) : ∃ dg2 lf2 k2, k - 13 ≤ k2 ∧ runS D F S nm n wn (nI 23) k (nI 3, dg, nI i, lf, 0, qq) = runS D F S nm n wn (nI 23) k2 (nI 16, dg2, nI i, lf2, 0, wPuts wn qq (lnT bd i kk am x q)) := by
  obtain ⟨n1, n2, n3, n4, n5, b1, b2, b3, b4, b5⟩ := hN
  obtain ⟨dg1, e1⟩ := sg1 (nm := nm) (n := n) (wn := wn) dg (nI i) lf 0 qq h (j := 3) (w := 3) (by decide) rfl (c := nI 105) (by decide) rfl (by decide) n1 (by omega) (show 0 < k by omega)
  rw [e1, sg2 (m := am) dg1 (nI i) lf 0 _ h (j := 4) (by decide) rfl (c := nI 97) (by decide) (by decide) n2 (by omega) (by omega), sg4 dg1 (nI i) lf _ _ h (j := 5) (by decide) rfl (by omega), sg2 (m := x) dg1 (nI i) _ 0 _ h (j := 6) (by decide) rfl (c := nI 120) (by decide) (by decide) n3 (by omega) (by omega), sg2c dg1 (nI i) _ _ _ h hbd (by omega), sg5 dg1 (nI i) _ _ _ h (j := 8) (j2 := 12) (by decide) rfl (c := nI 62) (by decide) rfl (by omega)]
  have ec : cmpR (nI 62) (0 + lN am) (0 + lN x + lN bd) = decide (x + bd < am) := by
    unfold cmpR
    rw [if_neg (by decide), if_pos rfl, Int64.zero_add, Int64.zero_add, lN_add]
    exact decide_eq_decide.mpr (lN_lt (by omega) (by omega))
  rw [ec]
  unfold lnT
  rw [wPuts_app, wPuts_app]
  by_cases hc : x + bd < am
  · rw [decide_eq_true hc, if_pos rfl, if_pos hc]
    rw [sg0 dg1 (nI i) _ 0 _ h (j := 9) (by decide) rfl (c := nI 65) (by decide) (by omega)]
    obtain ⟨dg2, e2⟩ := sg1 (nm := nm) (n := n) (wn := wn) dg1 (nI i) (0 + lN am) 0 (wPut wn (wPuts wn qq (numT (i + 1) 3)) (nI 65)) h (j := 10) (w := 0) (by decide) rfl (c := nI 107) (by decide) rfl (by decide) n4 (by omega) (show 0 < k - 1 - 1 - 1 - 1 - 1 - 1 - 1 by omega)
    rw [e2, sg6 dg2 (nI i) _ 0 _ h (by omega), sg0 dg2 (nI i) _ 0 _ h (j := 15) (by decide) rfl (c := nI 59) (by decide) (by omega)]
    exact ⟨dg2, _, k - 1 - 1 - 1 - 1 - 1 - 1 - 1 - 1 - 1 - 1, by omega, rfl⟩
  · rw [decide_eq_false hc, if_neg (by decide), if_neg hc]
    rw [sg0 dg1 (nI i) _ 0 _ h (j := 12) (by decide) rfl (c := nI 66) (by decide) (by omega), sg0 dg1 (nI i) _ 0 _ h (j := 13) (by decide) rfl (c := nI 42) (by decide) (by omega)]
    obtain ⟨dg2, e2⟩ := sg1 (nm := nm) (n := n) (wn := wn) dg1 (nI i) (0 + lN am) 0 (wPut wn (wPut wn (wPuts wn qq (numT (i + 1) 3)) (nI 66)) (nI 42)) h (j := 14) (w := 0) (by decide) rfl (c := nI 113) (by decide) rfl (by decide) n5 (by omega) (show 0 < k - 1 - 1 - 1 - 1 - 1 - 1 - 1 - 1 by omega)
    rw [e2, sg0 dg2 (nI i) _ 0 _ h (j := 15) (by decide) rfl (c := nI 59) (by decide) (by omega)]
    exact ⟨dg2, _, k - 1 - 1 - 1 - 1 - 1 - 1 - 1 - 1 - 1 - 1, by omega, rfl⟩
theorem run_lines (h : FRc bd D F S) (hbd : bd < 1000) (hn : n ≤ 6) {kk am x q : Nat → Nat} (hN : ∀ i, i < n → NmL nm i (kk i) (am i) (x i) (q i)) : ∀ (r i : Nat), i + r + 1 = n → ∀ (dg : Nat → Int32) (lf : Int64) (qq : Int32 × Int32) (k : Nat), 14 * (r + 1) ≤ k → ∃ dg2 lf2 k2, k - 14 * (r + 1) ≤ k2 ∧ runS D F S nm n wn (nI 23) k (nI 3, dg, nI i, lf, 0, wPuts wn qq (lnsT (fun j => lnT bd j (kk j) (am j) (x j) (q j)) i)) = runS D F S nm n wn (nI 23) k2 (nI 17, dg2, -1, lf2, 0, wPuts wn qq (lnsT (fun j => lnT bd j (kk j) (am j) (x j) (q j)) n)) := by
  intro r
  induction r with
  | zero =>
    intro i hi dg lf qq k hk
    obtain ⟨dg2, lf2, k2, h1, h2⟩ := run_line (n := n) (wn := wn) h hbd dg lf (wPuts wn qq (lnsT (fun j => lnT bd j (kk j) (am j) (x j) (q j)) i)) (hN i (by omega)) (show 13 ≤ k by omega)
    rw [h2, sg8 dg2 lf2 0 _ h hn (by omega) (by omega), if_neg (by omega), ← wPuts_app]
    refine ⟨dg2, lf2, k2 - 1, by omega, ?_⟩
    obtain rfl : n = i + 1 := by omega
    rfl
  | succ r ih =>
    intro i hi dg lf qq k hk
    obtain ⟨dg2, lf2, k2, h1, h2⟩ := run_line (n := n) (wn := wn) h hbd dg lf (wPuts wn qq (lnsT (fun j => lnT bd j (kk j) (am j) (x j) (q j)) i)) (hN i (by omega)) (show 13 ≤ k by omega)
    rw [h2, sg8 dg2 lf2 0 _ h hn (by omega) (by omega), if_pos (by omega), ← wPuts_app]
    obtain ⟨dg3, lf3, k3, h3, h4⟩ := ih (i + 1) (by omega) dg2 lf2 qq (k2 - 1) (by omega)
    exact ⟨dg3, lf3, k3, by omega, h4⟩
theorem run_all (h : FRc bd D F S) (hbd : bd < 1000) (hn0 : 0 < n) (hn : n ≤ 6) {kk am x q : Nat → Nat} (hN : ∀ i, i < n → NmL nm i (kk i) (am i) (x i) (q i)) {b s t : Nat} (h1 : nm (nI 110) (-1) = nI b) (h2 : nm (nI 115) (-1) = nI s) (h3 : nm (nI 116) (-1) = nI t) (h4 : nm (nI 103) (-1) = nI (s + t)) (hb : b < 2 ^ 30) (hs : s < 2 ^ 30) (ht : t < 2 ^ 30) (dg : Nat → Int32) (qq : Int32 × Int32) {k : Nat} (hk : 200 ≤ k) :
    (runS D F S nm n wn (nI 23) k (nI 0, dg, -1, 0, 0, qq)).2.2.2.2 = wPuts wn qq (txT b (lnsT (fun j => lnT bd j (kk j) (am j) (x j) (q j)) n) s t) := by
  obtain ⟨dg1, e1⟩ := sg1 (nm := nm) (n := n) (wn := wn) dg (-1) 0 0 qq h (j := 0) (w := 0) (by decide) rfl (c := nI 110) (by decide) rfl (by decide) h1 (by omega) (show 0 < k by omega)
  rw [e1, sg0 dg1 (-1) 0 0 _ h (j := 1) (by decide) rfl (c := nI 58) (by decide) (by omega), sg7 dg1 (-1) 0 0 _ h (by omega)]
  obtain ⟨dg2, lf2, k2, q1, q2⟩ := run_lines (wn := wn) h hbd hn hN (n - 1) 0 (by omega) dg1 0 (wPut wn (wPuts wn qq (numT b 0)) (nI 58)) (k - 1 - 1 - 1) (by omega)
  rw [show wPut wn (wPuts wn qq (numT b 0)) (nI 58) = wPuts wn (wPut wn (wPuts wn qq (numT b 0)) (nI 58)) (lnsT (fun j => lnT bd j (kk j) (am j) (x j) (q j)) 0) from rfl, q2, sg2 (m := s) dg2 (-1) lf2 0 _ h (j := 17) (by decide) rfl (c := nI 115) (by decide) (by decide) h2 (by omega) (by omega), sg4 dg2 (-1) lf2 _ _ h (j := 18) (by decide) rfl (by omega), sg2 (m := t) dg2 (-1) _ 0 _ h (j := 19) (by decide) rfl (c := nI 116) (by decide) (by decide) h3 (by omega) (by omega), sg5 dg2 (-1) _ _ _ h (j := 20) (j2 := 22) (by decide) rfl (c := nI 61) (by decide) rfl (by omega)]
  have ec : cmpR (nI 61) (0 + lN s) (0 + lN t) = decide (s = t) := by
    unfold cmpR
    rw [if_neg (by decide), if_neg (by decide), Int64.zero_add, Int64.zero_add]
    exact decide_eq_decide.mpr (lN_eq (by omega) (by omega))
  rw [ec]
  unfold txT
  rw [wPuts_app, wPuts_app, wPuts_app, wPuts_app, wPuts_1]
  have hend : ∀ (k : Nat) (w : WS), runS D F S nm n wn (nI 23) k (nI 23, w) = w := fun k w => by
    cases k with
    | zero => rfl
    | succ k => rw [runS, if_neg (nI_nlt (Nat.le_refl _) (by decide))]
  by_cases hc : s = t
  · rw [decide_eq_true hc, if_pos rfl, if_pos hc, sg0 dg2 (-1) _ 0 _ h (j := 21) (by decide) rfl (c := nI 33) (by decide) (by omega)]
    obtain ⟨dg3, e3⟩ := sg1 (nm := nm) (n := n) (wn := wn) dg2 (-1) (0 + lN s) 0 (wPut wn (wPuts wn (wPut wn (wPuts wn qq (numT b 0)) (nI 58)) (lnsT (fun j => lnT bd j (kk j) (am j) (x j) (q j)) n)) (nI 33)) h (j := 22) (w := 9) (by decide) rfl (c := nI 103) (by decide) rfl (by decide) h4 (by omega) (show 0 < k2 - 1 - 1 - 1 - 1 - 1 by omega)
    rw [e3, hend]
    rfl
  · rw [decide_eq_false hc, if_neg (by decide), if_neg hc]
    obtain ⟨dg3, e3⟩ := sg1 (nm := nm) (n := n) (wn := wn) dg2 (-1) (0 + lN s) 0 (wPuts wn (wPut wn (wPuts wn qq (numT b 0)) (nI 58)) (lnsT (fun j => lnT bd j (kk j) (am j) (x j) (q j)) n)) h (j := 22) (w := 9) (by decide) rfl (c := nI 103) (by decide) rfl (by decide) h4 (by omega) (show 0 < k2 - 1 - 1 - 1 - 1 by omega)
    rw [e3, hend]
    rfl
end
