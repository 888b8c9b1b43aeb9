/-! ===== InvoiceSmith$Writer ===== -/
theorem lg_lt {x y : Int64} : 0 ≤ lg_cmp x y ↔ ¬ x < y := by
  unfold lg_cmp
  split
  · rename_i h; exact ⟨fun _ q => by have h1 := Int64.lt_iff_toInt_lt.mp h; have h2 := Int64.lt_iff_toInt_lt.mp q; omega, fun _ => by decide⟩
  · rename_i h; split
    · rename_i h2; subst h2; exact ⟨fun _ => h, fun _ => by decide⟩
    · rename_i h2
      refine ⟨fun q => absurd q (by decide), fun q => absurd (Int64.toInt_inj.mp ?_) h2⟩
      have h3 : ¬ y.toInt < x.toInt := fun z => h (Int64.lt_iff_toInt_lt.mpr z)
      rw [Int64.lt_iff_toInt_lt] at q
      omega
theorem lg_gt {x y : Int64} : lg_cmp x y ≤ 0 ↔ ¬ y < x := by
  unfold lg_cmp
  split
  · rename_i h; exact ⟨fun q => absurd q (by decide), fun q => absurd h q⟩
  · rename_i h; split
    · exact ⟨fun _ => h, fun _ => by decide⟩
    · exact ⟨fun _ => h, fun _ => by decide⟩
theorem lg_n0 {a : Nat} (h : a < 2 ^ 31) : lg_cmp (lN a) 0 ≤ 0 ↔ a = 0 := by
  rw [lg_gt]
  show ¬ lN 0 < lN a ↔ _
  rw [lN_lt (by decide) h]
  omega
theorem cl_le {x : Int32} {k : Nat} (hk : k < 2 ^ 31) : x ≤ nI k ↔ x.toNatClampNeg ≤ k := by
  rw [Int32.le_iff_toInt_le, nI_toInt hk]
  show _ ↔ x.toInt.toNat ≤ k
  omega
theorem nI_m1 (j : Nat) : nI (j + 1) + (-1) = nI j := by
  rw [show (nI (j + 1) : Int32) = nI j + nI 1 from (nI_add j 1).symm, Int32.add_assoc]
  show nI j + 0 = nI j
  exact Int32.add_zero _
abbrev chr (x : Int32) : Int32 := (x.toUInt32 % 65536).toInt32
/-- what is counted and what is kept -/
def wPut (wn : Int32) (x : Int32 × Int32) (ch : Int32) : Int32 × Int32 := (x.1 + nI 1, if x.1 = wn then ch else x.2)
def wPuts (wn : Int32) (x : Int32 × Int32) (l : List Int32) : Int32 × Int32 := l.foldl (wPut wn) x
abbrev WS : Type := (Nat → Int32) × Int32 × Int64 × Int64 × (Int32 × Int32)
/-- the writer's state: digits, line, left, sum, (count, kept) -/
def wrS (st : XS) (w : WS) : XS := si (si (sl (sl (si (sa st 12 w.1) 4 3 w.2.1) 5 3 w.2.2.1) 6 3 w.2.2.2.1) 3 3 w.2.2.2.2.2) 1 3 w.2.2.2.2.1
section
variable (st : XS) (dg : Nat → Int32) (ln : Int32) (lf sm : Int64) (c kp : Int32)
theorem wr_c : gi (wrS st (dg, ln, lf, sm, c, kp)) 1 3 = c := by unfold wrS; rw [gi_si, if_pos ⟨rfl, rfl⟩]
theorem wr_k : gi (wrS st (dg, ln, lf, sm, c, kp)) 3 3 = kp := by unfold wrS; rw [gi_si, if_neg (by decide), gi_si, if_pos ⟨rfl, rfl⟩]
theorem wr_l : gi (wrS st (dg, ln, lf, sm, c, kp)) 4 3 = ln := by unfold wrS; rw [gi_si, if_neg (by decide), gi_si, if_neg (by decide), gi_sl, gi_sl, gi_si, if_pos ⟨rfl, rfl⟩]
theorem wr_o {f k : Nat} (h : ¬ k = 3 ∨ f = 2) : gi (wrS st (dg, ln, lf, sm, c, kp)) f k = gi st f k := by
  unfold wrS; rw [gi_si, if_neg (by omega), gi_si, if_neg (by omega), gi_sl, gi_sl, gi_si, if_neg (by omega), gi_sa]
theorem wr_lf : gl (wrS st (dg, ln, lf, sm, c, kp)) 5 3 = lf := by unfold wrS; rw [gl_si, gl_si, gl_sl, if_neg (by decide), gl_sl, if_pos ⟨rfl, rfl⟩]
theorem wr_sm : gl (wrS st (dg, ln, lf, sm, c, kp)) 6 3 = sm := by unfold wrS; rw [gl_si, gl_si, gl_sl, if_pos ⟨rfl, rfl⟩]
theorem wr_dg : ga (wrS st (dg, ln, lf, sm, c, kp)) 12 = dg := by unfold wrS; rw [ga_si, ga_si, ga_sl, ga_sl, ga_si, ga_self]
theorem wr_ga {k : Nat} (h : ¬ k = 12) : ga (wrS st (dg, ln, lf, sm, c, kp)) k = ga st k := by unfold wrS; rw [ga_si, ga_si, ga_sl, ga_sl, ga_si, ga_sa, if_neg h]
theorem wr_gp {f k : Nat} {w : WS} : gp (wrS st w) f k = gp st f k := rfl
theorem wr_gb {k : Nat} {w : WS} : gb (wrS st w) k = gb st k := rfl
theorem w_c (v : Int32) : si (wrS st (dg, ln, lf, sm, c, kp)) 1 3 v = wrS st (dg, ln, lf, sm, v, kp) := by unfold wrS; rw [si_si]
theorem w_k (v : Int32) : si (wrS st (dg, ln, lf, sm, c, kp)) 3 3 v = wrS st (dg, ln, lf, sm, c, v) := by
  refine XS_ext (fun f k => ?_) (fun _ _ => rfl) (fun _ _ => rfl) (fun _ => rfl) (fun _ => rfl)
  unfold wrS; simp only [gi_si]; by_cases h1 : f = 3 ∧ k = 3
  · rw [if_pos h1, if_neg (by omega), if_pos h1]
  · rw [if_neg h1, if_neg h1, if_neg h1]
theorem w_l (v : Int32) : si (wrS st (dg, ln, lf, sm, c, kp)) 4 3 v = wrS st (dg, v, lf, sm, c, kp) := by
  refine XS_ext (fun f k => ?_) (fun _ _ => rfl) (fun _ _ => rfl) (fun _ => rfl) (fun _ => rfl)
  unfold wrS; simp only [gi_si, gi_sl]; by_cases h1 : f = 4 ∧ k = 3
  · rw [if_pos h1, if_neg (by omega), if_neg (by omega), if_pos h1]
  · rw [if_neg h1, if_neg h1, if_neg h1]
theorem w_lf (v : Int64) : sl (wrS st (dg, ln, lf, sm, c, kp)) 5 3 v = wrS st (dg, ln, v, sm, c, kp) := by
  refine XS_ext (fun _ _ => rfl) (fun f k => ?_) (fun _ _ => rfl) (fun _ => rfl) (fun _ => rfl)
  unfold wrS; simp only [gl_si, gl_sl]; by_cases h1 : f = 5 ∧ k = 3
  · rw [if_pos h1, if_neg (by omega), if_pos h1]
  · rw [if_neg h1, if_neg h1, if_neg h1]
theorem w_sm (v : Int64) : sl (wrS st (dg, ln, lf, sm, c, kp)) 6 3 v = wrS st (dg, ln, lf, v, c, kp) := by
  refine XS_ext (fun _ _ => rfl) (fun f k => ?_) (fun _ _ => rfl) (fun _ => rfl) (fun _ => rfl)
  unfold wrS; simp only [gl_si, gl_sl]; by_cases h1 : f = 6 ∧ k = 3
  · rw [if_pos h1, if_pos h1]
  · rw [if_neg h1, if_neg h1, if_neg h1]
theorem w_dg (v : Nat → Int32) : sa (wrS st (dg, ln, lf, sm, c, kp)) 12 v = wrS st (v, ln, lf, sm, c, kp) := by
  refine XS_ext (fun _ _ => rfl) (fun _ _ => rfl) (fun _ _ => rfl) (fun k => ?_) (fun _ => rfl)
  unfold wrS; simp only [ga_si, ga_sl, ga_sa]; by_cases h1 : k = 12
  · rw [if_pos h1, if_pos h1]
  · rw [if_neg h1, if_neg h1, if_neg h1]
end
/-- how many digits a number has, by a bound -/
def dsz : Nat → Nat → Nat
  | 0, _ => 1
  | k + 1, m => if m / 10 = 0 then 1 else dsz k (m / 10) + 1
def dgR (f : Nat → Int32) (m t : Nat) : Nat → Int32 := fun j => if j < t then nI (m / 10 ^ j % 10) else f j
theorem dgR_s (f : Nat → Int32) (m t : Nat) : upd (dgR f m t) t (nI (m / 10 ^ t % 10)) = dgR f m (t + 1) := by
  funext q
  unfold upd dgR
  by_cases h1 : q = t
  · subst h1; rw [if_pos rfl, if_pos (by omega)]
  · rw [if_neg h1]
    by_cases h2 : q < t
    · rw [if_pos h2, if_pos (by omega)]
    · rw [if_neg h2, if_neg (by omega)]
/-- the digits of a number from place t - 1 down -/
def dgT (m : Nat) : Nat → List Int32
  | 0 => []
  | t + 1 => nI (48 + m / 10 ^ t % 10) :: dgT m t
/-- a number as it is written, at least so wide -/
def numT (m w : Nat) : List Int32 := List.replicate (w - dsz 9 m) (nI 32) ++ dgT m (dsz 9 m)
theorem dsz_le : ∀ (k m : Nat), dsz k m ≤ k + 1 := by
  intro k
  induction k with
  | zero => intro m; exact Nat.le_refl _
  | succ k ih =>
    intro m
    rw [dsz]
    split
    · omega
    · have := ih (m / 10); omega
theorem wPuts_app (wn : Int32) (x : Int32 × Int32) (l1 l2 : List Int32) : wPuts wn x (l1 ++ l2) = wPuts wn (wPuts wn x l1) l2 := List.foldl_append
theorem rep_s (n : Nat) (a : Int32) : List.replicate (n + 1) a = List.replicate n a ++ [a] := List.replicate_succ'
theorem nI_chr {n : Nat} (h : n < 65536) : ((nI n).toUInt32 % 65536).toInt32 = nI n := by
  apply Int32.toBitVec_inj.mp
  apply BitVec.eq_of_toNat_eq
  show ((nI n).toUInt32 % 65536).toNat = (BitVec.ofNat 32 n).toNat
  rw [UInt32.toNat_mod]
  show (BitVec.ofNat 32 n).toNat % 65536 = _
  rw [BitVec.toNat_ofNat, Nat.mod_eq_of_lt (show n < 2 ^ 32 by omega), Nat.mod_eq_of_lt h]

set_option maxHeartbeats 4000000 in
set_option maxRecDepth 100000 in
theorem c_X6_put (l : Launch) (D : va_G) (cy : Nat → ClassId) (ad : Nat → Nat) (Ls : List Nat) (st : XS) (hL : ∀ k, xC k = true → k ∈ Ls) (wn : Int32) (hwn : gi st 2 3 = wn) (dg : Nat → Int32) (ln : Int32) (lf sm : Int64) (c9 kp : Int32) (ch : Int32) (hch : narrow .char (.int ch) = .int ch ∧ fits .char (.int ch) = true) : xMv l yX6_put cX6_put 2 1 D cy ad Ls (wrS st (dg, ln, lf, sm, c9, kp)) [.ref (ad 3), .int ch] (fun u => u = wrS st (dg, ln, lf, sm, wPut wn (c9, kp) ch)) := by
  intro sz
  refine x_of sz (by decide +kernel) (Nat.le_of_ble_eq_true rfl) ?_
  intro p e s m args below meth c ls hx hb hr hlocks C hsz h hl
  have hl : lv_has ls 2 [(0, .ref (ad 3)), (1, .int ch)] := hl
  obtain ⟨H, eH⟩ : ∃ z, z = s.heap := ⟨_, rfl⟩
  obtain ⟨locs, eL⟩ : ∃ z : List Loc, z = [] := ⟨_, rfl⟩
  rw [← eH, ← eL] at h
  rw [← eH, ← eL]
  clear eH eL
  obtain ⟨v, hv⟩ : ∃ v, v = wrS st (dg, ln, lf, sm, c9, kp) := ⟨_, rfl⟩
  rw [← hv] at h
  refine lv_aload_n hx hb dX6_put_0 rfl (lv_at hl 0 rfl) ?_
  refine gf_X6_15 C h (hL 3 rfl) rfl dX6_put_1 ?_
  refine x_topi (y := c9) (by rw [hv]; exact wr_c ..) ?_
  refine lv_aload_n hx hb dX6_put_4 rfl (lv_at hl 0 rfl) ?_
  refine gf_X6_19 C h (hL 3 rfl) rfl dX6_put_5 ?_
  refine x_topi (y := wn) (by rw [hv, wr_o _ _ _ _ _ _ _ (Or.inr rfl)]; exact hwn) ?_
  refine lv_icmp_ne (tgt := 16) hx hb dX6_put_8 (by decide) (fun c8 => ?_) (fun c8 => ?_)
  · refine lv_aload_n hx hb dX6_put_16 rfl (lv_at hl 0 rfl) ?_
    refine lv_dup hx hb dX6_put_17 rfl ?_
    refine gf_X6_15 C h (hL 3 rfl) rfl dX6_put_18 ?_
    refine x_topi (y := c9) (by rw [hv]; exact wr_c ..) ?_
    refine lv_iconst (v := nI 1) hx hb dX6_put_21 (by decide) ?_
    refine lv_iadd hx hb dX6_put_22 ?_
    refine pf_X6_15 C h (hL 3 rfl) rfl dX6_put_23 (fun H locs u1 eu1 h => ?_)
    rw [hv, w_c] at eu1
    exact x_vret C hr hlocks h (by rw [wPut, if_neg c8]; exact eu1) dX6_put_26
  · refine lv_aload_n hx hb dX6_put_11 rfl (lv_at hl 0 rfl) ?_
    refine lv_iload_n hx hb dX6_put_12 rfl (lv_at hl 1 rfl) ?_
    refine pf_X6_22 C h (hL 3 rfl) rfl (by first | exact hch.1 | assumption) (by first | exact hch.2 | assumption) dX6_put_13 (fun H locs u2 eu2 h => ?_)
    rw [hv, w_k] at eu2
    refine lv_aload_n hx hb dX6_put_16 rfl (lv_at hl 0 rfl) ?_
    refine lv_dup hx hb dX6_put_17 rfl ?_
    refine gf_X6_15 C h (hL 3 rfl) rfl dX6_put_18 ?_
    refine x_topi (y := c9) (by rw [eu2]; exact wr_c ..) ?_
    refine lv_iconst (v := nI 1) hx hb dX6_put_21 (by decide) ?_
    refine lv_iadd hx hb dX6_put_22 ?_
    refine pf_X6_15 C h (hL 3 rfl) rfl dX6_put_23 (fun H locs u3 eu3 h => ?_)
    rw [eu2, w_c] at eu3
    exact x_vret C hr hlocks h (by rw [wPut, if_pos c8]; exact eu3) dX6_put_26
