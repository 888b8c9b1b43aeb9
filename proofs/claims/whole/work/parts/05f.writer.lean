/-! ===== InvoiceSmith$Writer ===== -/
theorem lg_lt {x y : Int64} : 0 ≤ lg_cmp x y ↔ ¬ x < y := by
  unfold lg_cmp
  split
  · rename_i h; exact ⟨fun _ q => by have h1 := Int64.lt_iff_toInt_lt.mp h; have h2 := Int64.lt_iff_toInt_lt.mp q; omega, fun _ => by decide⟩
  · rename_i h; split
    · rename_i h2; subst h2; exact ⟨fun _ => h, fun _ => by decide⟩
    · rename_i h2
      refine ⟨fun q => absurd q (by decide), fun q => absurd (Int64.toInt_inj.mp ?_) h2⟩
      have h3 : ¬ y.toInt < x.toInt := fun z => h (Int64.lt_iff_toInt_lt.mpr z)
      rw [Int64.lt_iff_toInt_lt] at q
      omega
theorem lg_gt {x y : Int64} : lg_cmp x y ≤ 0 ↔ ¬ y < x := by
  unfold lg_cmp
  split
  · rename_i h; exact ⟨fun q => absurd q (by decide), fun q => absurd h q⟩
  · rename_i h; split
    · exact ⟨fun _ => h, fun _ => by decide⟩
    · exact ⟨fun _ => h, fun _ => by decide⟩
theorem lg_n0 {a : Nat} (h : a < 2 ^ 31) : lg_cmp (lN a) 0 ≤ 0 ↔ a = 0 := by
  rw [lg_gt]
  show ¬ lN 0 < lN a ↔ _
  rw [lN_lt (by decide) h]
  omega
theorem cl_le {x : Int32} {k : Nat} (hk : k < 2 ^ 31) : x ≤ nI k ↔ x.toNatClampNeg ≤ k := by
  rw [Int32.le_iff_toInt_le, nI_toInt hk]
  show _ ↔ x.toInt.toNat ≤ k
  omega
theorem nI_m1 (j : Nat) : nI (j + 1) + (-1) = nI j := by
  rw [show (nI (j + 1) : Int32) = nI j + nI 1 from (nI_add j 1).symm, Int32.add_assoc]
  show nI j + 0 = nI j
  exact Int32.add_zero _
abbrev chr (x : Int32) : Int32 := (x.toUInt32 % 65536).toInt32
/-- what is counted and what is kept -/
def wPut (wn : Int32) (x : Int32 × Int32) (ch : Int32) : Int32 × Int32 := (x.1 + nI 1, if x.1 = wn then ch else x.2)
def wPuts (wn : Int32) (x : Int32 × Int32) (l : List Int32) : Int32 × Int32 := l.foldl (wPut wn) x
abbrev WS : Type := (Nat → Int32) × Int32 × Int64 × Int64 × (Int32 × Int32)
/-- the writer's state: digits, line, left, sum, (count, kept) -/
def wrS (st : XS) (w : WS) : XS := si (si (sl (sl (si (sa st 12 w.1) 4 3 w.2.1) 5 3 w.2.2.1) 6 3 w.2.2.2.1) 3 3 w.2.2.2.2.2) 1 3 w.2.2.2.2.1
section
variable (st : XS) (dg : Nat → Int32) (ln : Int32) (lf sm : Int64) (c kp : Int32)
theorem wr_c : gi (wrS st (dg, ln, lf, sm, c, kp)) 1 3 = c := by unfold wrS; rw [gi_si, if_pos ⟨rfl, rfl⟩]
theorem wr_k : gi (wrS st (dg, ln, lf, sm, c, kp)) 3 3 = kp := by unfold wrS; rw [gi_si, if_neg (by decide), gi_si, if_pos ⟨rfl, rfl⟩]
theorem wr_l : gi (wrS st (dg, ln, lf, sm, c, kp)) 4 3 = ln := by unfold wrS; rw [gi_si, if_neg (by decide), gi_si, if_neg (by decide), gi_sl, gi_sl, gi_si, if_pos ⟨rfl, rfl⟩]
theorem wr_o {f k : Nat} (h : ¬ k = 3 ∨ f = 2) : gi (wrS st (dg, ln, lf, sm, c, kp)) f k = gi st f k := by
  unfold wrS; rw [gi_si, if_neg (by omega), gi_si, if_neg (by omega), gi_sl, gi_sl, gi_si, if_neg (by omega), gi_sa]
theorem wr_lf : gl (wrS st (dg, ln, lf, sm, c, kp)) 5 3 = lf := by unfold wrS; rw [gl_si, gl_si, gl_sl, if_neg (by decide), gl_sl, if_pos ⟨rfl, rfl⟩]
theorem wr_sm : gl (wrS st (dg, ln, lf, sm, c, kp)) 6 3 = sm := by unfold wrS; rw [gl_si, gl_si, gl_sl, if_pos ⟨rfl, rfl⟩]
theorem wr_dg : ga (wrS st (dg, ln, lf, sm, c, kp)) 12 = dg := by unfold wrS; rw [ga_si, ga_si, ga_sl, ga_sl, ga_si, ga_self]
theorem wr_ga {k : Nat} (h : ¬ k = 12) : ga (wrS st (dg, ln, lf, sm, c, kp)) k = ga st k := by unfold wrS; rw [ga_si, ga_si, ga_sl, ga_sl, ga_si, ga_sa, if_neg h]
theorem wr_gp {f k : Nat} {w : WS} : gp (wrS st w) f k = gp st f k := rfl
theorem wr_gb {k : Nat} {w : WS} : gb (wrS st w) k = gb st k := rfl
theorem w_c (v : Int32) : si (wrS st (dg, ln, lf, sm, c, kp)) 1 3 v = wrS st (dg, ln, lf, sm, v, kp) := by unfold wrS; rw [si_si]
theorem w_k (v : Int32) : si (wrS st (dg, ln, lf, sm, c, kp)) 3 3 v = wrS st (dg, ln, lf, sm, c, v) := by
  refine XS_ext (fun f k => ?_) (fun _ _ => rfl) (fun _ _ => rfl) (fun _ => rfl) (fun _ => rfl)
  unfold wrS; simp only [gi_si]; by_cases h1 : f = 3 ∧ k = 3
  · rw [if_pos h1, if_neg (by omega), if_pos h1]
  · rw [if_neg h1, if_neg h1, if_neg h1]
theorem w_l (v : Int32) : si (wrS st (dg, ln, lf, sm, c, kp)) 4 3 v = wrS st (dg, v, lf, sm, c, kp) := by
  refine XS_ext (fun f k => ?_) (fun _ _ => rfl) (fun _ _ => rfl) (fun _ => rfl) (fun _ => rfl)
  unfold wrS; simp only [gi_si, gi_sl]; by_cases h1 : f = 4 ∧ k = 3
  · rw [if_pos h1, if_neg (by omega), if_neg (by omega), if_pos h1]
  · rw [if_neg h1, if_neg h1, if_neg h1]
theorem w_lf (v : Int64) : sl (wrS st (dg, ln, lf, sm, c, kp)) 5 3 v = wrS st (dg, ln, v, sm, c, kp) := by
  refine XS_ext (fun _ _ => rfl) (fun f k => ?_) (fun _ _ => rfl) (fun _ => rfl) (fun _ => rfl)
  unfold wrS; simp only [gl_si, gl_sl]; by_cases h1 : f = 5 ∧ k = 3
  · rw [if_pos h1, if_neg (by omega), if_pos h1]
  · rw [if_neg h1, if_neg h1, if_neg h1]
theorem w_sm (v : Int64) : sl (wrS st (dg, ln, lf, sm, c, kp)) 6 3 v = wrS st (dg, ln, lf, v, c, kp) := by
  refine XS_ext (fun _ _ => rfl) (fun f k => ?_) (fun _ _ => rfl) (fun _ => rfl) (fun _ => rfl)
  unfold wrS; simp only [gl_si, gl_sl]; by_cases h1 : f = 6 ∧ k = 3
  · rw [if_pos h1, if_pos h1]
  · rw [if_neg h1, if_neg h1, if_neg h1]
theorem w_dg (v : Nat → Int32) : sa (wrS st (dg, ln, lf, sm, c, kp)) 12 v = wrS st (v, ln, lf, sm, c, kp) := by
  refine XS_ext (fun _ _ => rfl) (fun _ _ => rfl) (fun _ _ => rfl) (fun k => ?_) (fun _ => rfl)
  unfold wrS; simp only [ga_si, ga_sl, ga_sa]; by_cases h1 : k = 12
  · rw [if_pos h1, if_pos h1]
  · rw [if_neg h1, if_neg h1, if_neg h1]
end
/-- how many digits a number has, by a bound -/
def dsz : Nat → Nat → Nat
  | 0, _ => 1
  | k + 1, m => if m / 10 = 0 then 1 else dsz k (m / 10) + 1
def dgR (f : Nat → Int32) (m t : Nat) : Nat → Int32 := fun j => if j < t then nI (m / 10 ^ j % 10) else f j
theorem dgR_s (f : Nat → Int32) (m t : Nat) : upd (dgR f m t) t (nI (m / 10 ^ t % 10)) = dgR f m (t + 1) := by
  funext q
  unfold upd dgR
  by_cases h1 : q = t
  · subst h1; rw [if_pos rfl, if_pos (by omega)]
  · rw [if_neg h1]
    by_cases h2 : q < t
    · rw [if_pos h2, if_pos (by omega)]
    · rw [if_neg h2, if_neg (by omega)]
/-- the digits of a number from place t - 1 down -/
def dgT (m : Nat) : Nat → List Int32
  | 0 => []
  | t + 1 => nI (48 + m / 10 ^ t % 10) :: dgT m t
/-- a number as it is written, at least so wide -/
def numT (m w : Nat) : List Int32 := List.replicate (w - dsz 9 m) (nI 32) ++ dgT m (dsz 9 m)
theorem dsz_le : ∀ (k m : Nat), dsz k m ≤ k + 1 := by
  intro k
  induction k with
  | zero => intro m; exact Nat.le_refl _
  | succ k ih =>
    intro m
    rw [dsz]
    split
    · omega
    · have := ih (m / 10); omega
theorem wPuts_app (wn : Int32) (x : Int32 × Int32) (l1 l2 : List Int32) : wPuts wn x (l1 ++ l2) = wPuts wn (wPuts wn x l1) l2 := List.foldl_append
theorem rep_s (n : Nat) (a : Int32) : List.replicate (n + 1) a = List.replicate n a ++ [a] := List.replicate_succ'
theorem nI_chr {n : Nat} (h : n < 65536) : ((nI n).toUInt32 % 65536).toInt32 = nI n := by
  apply Int32.toBitVec_inj.mp
  apply BitVec.eq_of_toNat_eq
  show ((nI n).toUInt32 % 65536).toNat = (BitVec.ofNat 32 n).toNat
  rw [UInt32.toNat_mod]
  show (BitVec.ofNat 32 n).toNat % 65536 = _
  rw [BitVec.toNat_ofNat, Nat.mod_eq_of_lt (show n < 2 ^ 32 by omega), Nat.mod_eq_of_lt h]

set_option maxHeartbeats 4000000 in
set_option maxRecDepth 100000 in
theorem c_X6_put (l : Launch) (D : va_G) (cy : Nat → ClassId) (ad : Nat → Nat) (Ls : List Nat) (st : XS) (hL : ∀ k, xC k = true → k ∈ Ls) (wn : Int32) (hwn : gi st 2 3 = wn) (dg : Nat → Int32) (ln : Int32) (lf sm : Int64) (c9 kp : Int32) (ch : Int32) (hch : narrow .char (.int ch) = .int ch ∧ fits .char (.int ch) = true) : xMv l yX6_put cX6_put 2 1 D cy ad Ls (wrS st (dg, ln, lf, sm, c9, kp)) [.ref (ad 3), .int ch] (fun u => u = wrS st (dg, ln, lf, sm, wPut wn (c9, kp) ch)) := by
  intro sz
  refine x_of sz (by decide +kernel) (Nat.le_of_ble_eq_true rfl) ?_
  intro p e s m args below meth c ls hx hb hr hlocks C hsz h hl
  have hl : lv_has ls 2 [(0, .ref (ad 3)), (1, .int ch)] := hl
  obtain ⟨H, eH⟩ : ∃ z, z = s.heap := ⟨_, rfl⟩
  obtain ⟨locs, eL⟩ : ∃ z : List Loc, z = [] := ⟨_, rfl⟩
  rw [← eH, ← eL] at h
  rw [← eH, ← eL]
  clear eH eL
  obtain ⟨v, hv⟩ : ∃ v, v = wrS st (dg, ln, lf, sm, c9, kp) := ⟨_, rfl⟩
  rw [← hv] at h
  refine lv_aload_n hx hb dX6_put_0 rfl (lv_at hl 0 rfl) ?_
  refine gf_X6_15 C h (hL 3 rfl) rfl dX6_put_1 ?_
  refine x_topi (y := c9) (by rw [hv]; exact wr_c ..) ?_
  refine lv_aload_n hx hb dX6_put_4 rfl (lv_at hl 0 rfl) ?_
  refine gf_X6_19 C h (hL 3 rfl) rfl dX6_put_5 ?_
  refine x_topi (y := wn) (by rw [hv, wr_o _ _ _ _ _ _ _ (Or.inr rfl)]; exact hwn) ?_
  refine lv_icmp_ne (tgt := 16) hx hb dX6_put_8 (by decide) (fun c8 => ?_) (fun c8 => ?_)
  · refine lv_aload_n hx hb dX6_put_16 rfl (lv_at hl 0 rfl) ?_
    refine lv_dup hx hb dX6_put_17 rfl ?_
    refine gf_X6_15 C h (hL 3 rfl) rfl dX6_put_18 ?_
    refine x_topi (y := c9) (by rw [hv]; exact wr_c ..) ?_
    refine lv_iconst (v := nI 1) hx hb dX6_put_21 (by decide) ?_
    refine lv_iadd hx hb dX6_put_22 ?_
    refine pf_X6_15 C h (hL 3 rfl) rfl dX6_put_23 (fun H locs u1 eu1 h => ?_)
    rw [hv, w_c] at eu1
    exact x_vret C hr hlocks h (by rw [wPut, if_neg c8]; exact eu1) dX6_put_26
  · refine lv_aload_n hx hb dX6_put_11 rfl (lv_at hl 0 rfl) ?_
    refine lv_iload_n hx hb dX6_put_12 rfl (lv_at hl 1 rfl) ?_
    refine pf_X6_22 C h (hL 3 rfl) rfl (by first | exact hch.1 | assumption) (by first | exact hch.2 | assumption) dX6_put_13 (fun H locs u2 eu2 h => ?_)
    rw [hv, w_k] at eu2
    refine lv_aload_n hx hb dX6_put_16 rfl (lv_at hl 0 rfl) ?_
    refine lv_dup hx hb dX6_put_17 rfl ?_
    refine gf_X6_15 C h (hL 3 rfl) rfl dX6_put_18 ?_
    refine x_topi (y := c9) (by rw [eu2]; exact wr_c ..) ?_
    refine lv_iconst (v := nI 1) hx hb dX6_put_21 (by decide) ?_
    refine lv_iadd hx hb dX6_put_22 ?_
    refine pf_X6_15 C h (hL 3 rfl) rfl dX6_put_23 (fun H locs u3 eu3 h => ?_)
    rw [eu2, w_c] at eu3
    exact x_vret C hr hlocks h (by rw [wPut, if_pos c8]; exact eu3) dX6_put_26

theorem chr_n (x : Int32) : ∃ n, n < 65536 ∧ chr x = nI n := by
  refine ⟨(x.toUInt32 % 65536).toNat, ?_, ?_⟩
  · rw [UInt32.toNat_mod]; exact Nat.mod_lt _ (by decide)
  · apply Int32.toBitVec_inj.mp
    apply BitVec.eq_of_toNat_eq
    show (x.toUInt32 % 65536).toNat = (BitVec.ofNat 32 _).toNat
    rw [BitVec.toNat_ofNat, Nat.mod_eq_of_lt (x.toUInt32 % 65536).toNat_lt]
theorem chr_ok0 {n : Nat} (h : n < 65536) : narrow .char (.int (nI n)) = .int (nI n) ∧ fits .char (.int (nI n)) = true := by
  refine ⟨by rw [← nI_chr h]; exact pk_nc _, ?_⟩
  have h1 : (0 : Int32) ≤ nI n := nI_pos' (by omega)
  have h2 : nI n ≤ (65535 : Int32) := nI_le (show n ≤ 65535 by omega) (by decide)
  show (decide ((0 : Int32) ≤ nI n) && decide (nI n ≤ (65535 : Int32))) = true
  rw [decide_eq_true h1, decide_eq_true h2]; rfl
theorem chr_ok (x : Int32) : narrow .char (.int (chr x)) = .int (chr x) ∧ fits .char (.int (chr x)) = true := by
  obtain ⟨n, hn, e⟩ := chr_n x
  rw [e]; exact chr_ok0 hn
theorem dgR_0 (f : Nat → Int32) (m : Nat) : dgR f m 0 = f := by funext q; unfold dgR; rw [if_neg (by omega)]
theorem dsz_1 {k a : Nat} (h : a / 10 = 0) : dsz k a = 1 := by cases k with | zero => rfl | succ k => rw [dsz, if_pos h]

set_option maxHeartbeats 4000000 in
set_option maxRecDepth 100000 in
theorem c_X6_putNumber (l : Launch) (D : va_G) (cy : Nat → ClassId) (ad : Nat → Nat) (Ls : List Nat) (st : XS) (hL : ∀ k, xC k = true → k ∈ Ls) (wn : Int32) (hwn : gi st 2 3 = wn) (dg : Nat → Int32) (ln : Int32) (lf sm : Int64) (c9 kp : Int32) (q9 : Nat) (hm : q9 < 2 ^ 31) (wd : Int32) : xMv l yX6_putNumber cX6_putNumber 8 3 D cy ad Ls (wrS st (dg, ln, lf, sm, c9, kp)) [.ref (ad 3), .int (nI q9), .int wd] (fun u => u = wrS st (dgR dg q9 (dsz 9 q9), ln, lf, sm, wPuts wn (c9, kp) (numT q9 wd.toNatClampNeg))) := by
  intro sz
  refine x_of sz (by decide +kernel) (Nat.le_of_ble_eq_true rfl) ?_
  intro p e s m args below meth c ls hx hb hr hlocks C hsz h hl
  have hl : lv_has ls 8 [(0, .ref (ad 3)), (1, .int (nI q9)), (2, .int wd)] := hl
  have hw31 : wd.toNatClampNeg < 2 ^ 31 := by have := wd.toInt_lt; show wd.toInt.toNat < _; omega
  obtain ⟨H, eH⟩ : ∃ z, z = s.heap := ⟨_, rfl⟩
  obtain ⟨locs, eL⟩ : ∃ z : List Loc, z = [] := ⟨_, rfl⟩
  rw [← eH, ← eL] at h
  rw [← eH, ← eL]
  clear eH eL
  obtain ⟨v, hv⟩ : ∃ v, v = wrS st (dg, ln, lf, sm, c9, kp) := ⟨_, rfl⟩
  rw [← hv] at h
  refine lv_iload_n hx hb dX6_putNumber_0 rfl (lv_at hl 1 rfl) ?_
  refine x_if_ge_t (tgt := 8) hx hb dX6_putNumber_1 (by decide) (nI_pos' (by omega)) ?_
  refine lv_iconst (v := nI 0) hx hb dX6_putNumber_8 (by decide) ?_
  refine lv_istore_n (lv' := [(3, .int (nI 0)), (0, .ref (ad 3)), (1, .int (nI q9)), (2, .int wd)]) hx hb dX6_putNumber_9 rfl hl (by decide) rfl (fun ls hl => ?_)
  refine lv_iload_n hx hb dX6_putNumber_10 rfl (lv_at hl 0 rfl) ?_
  refine x_ifN_eq (tgt := 20) hx hb dX6_putNumber_11 (by decide) (by decide) (fun _ => ?_) (fun z9 => absurd z9 (by decide))
  refine lv_iload_n hx hb dX6_putNumber_20 rfl (lv_at hl 2 rfl) ?_
  refine lv_i2l hx hb dX6_putNumber_21 rfl ?_
  refine x_topl (y := lN (q9 / 10 ^ 0)) (by rw [Nat.pow_zero, Nat.div_one]; exact nI_l hm) ?_
  refine lv_lstore (lv' := [(4, .long (lN (q9 / 10 ^ 0))), (3, .int (nI 0)), (0, .ref (ad 3)), (1, .int (nI q9)), (2, .int wd)]) hx hb dX6_putNumber_22 hl (by decide) rfl (fun ls hl => ?_)
  refine lv_iconst (v := nI 0) hx hb dX6_putNumber_24 (by decide) ?_
  refine lv_istore (lv' := [(6, .int (nI 0)), (4, .long (lN (q9 / 10 ^ 0))), (3, .int (nI 0)), (0, .ref (ad 3)), (1, .int (nI q9)), (2, .int wd)]) hx hb dX6_putNumber_25 hl (by decide) rfl (fun ls hl => ?_)
  have L27 : ∀ (N27 : Nat) (v9 : XS) (t : Nat) (hv9 : v9 = wrS st (dgR dg q9 t, ln, lf, sm, c9, kp)) (ht : dsz 9 q9 = t + dsz (9 - t) (q9 / 10 ^ t)) (ht9 : t ≤ 9) (hN : 9 - t < N27) (H : Heap) (locs : List Loc) (ls : Array Slot), xH D cy ad Ls (XA ad Ls sz) s v9 H locs → lv_has ls 8 [(0, .ref (ad 3)), (1, .int (nI q9)), (2, .int wd), (3, .int (nI 0)), (4, .long (lN (q9 / 10 ^ t))), (6, .int (nI t))] → W p l e (xR 3) s m args below meth c H locs 0 0 (MQ below (va_Qv (fun u => u = wrS st (dgR dg q9 (dsz 9 q9), ln, lf, sm, wPuts wn (c9, kp) (numT q9 wd.toNatClampNeg))) (fun u => xPost D cy ad Ls (XA ad Ls sz) u) (XA ad Ls sz)) args s 0 0 (XA ad Ls sz)) (F0 m 27 ls []) := by
    intro N27
    induction N27 with
    | zero => intro v9 t hv9 ht ht9 hN; omega
    | succ N27 ih27 =>
      intro v9 t hv9 ht ht9 hN H locs ls h hl
      refine lv_aload_n hx hb dX6_putNumber_27 rfl (lv_at hl 0 rfl) ?_
      refine gf_X6_11 C h (hL 3 rfl) rfl (k2 := 12) rfl dX6_putNumber_28 ?_
      refine lv_iload hx hb dX6_putNumber_31 (lv_at hl 5 rfl) ?_
      refine lv_lload hx hb dX6_putNumber_33 (lv_at hl 4 rfl) ?_
      refine lv_ldc2 (v := 10) hx hb C.2.2.2.1 (C.2.2.2.2.1 _ tb831) dX6_putNumber_35 ?_
      refine lv_lrem hx hb dX6_putNumber_38 (by decide) ?_
      refine x_topl (y := lN (q9 / 10 ^ t % 10)) (pk_lRem (b := 10) (Nat.lt_of_le_of_lt (Nat.div_le_self _ _) (by omega)) (by decide) (by decide)) ?_
      refine lv_l2i hx hb dX6_putNumber_39 rfl ?_
      refine x_topi (y := nI (q9 / 10 ^ t % 10)) (lN_i _) ?_
      refine cl_X6_87 C h (c_X7_set l D cy ad Ls v9 (hL 12 rfl) (n := 10) rfl (by decide) (nI t) (nI (q9 / 10 ^ t % 10))) (x_room (by omega)) ⟨Nat.zero_le _, Nat.zero_le _⟩ hl.1 (Nat.le_of_ble_eq_true rfl) dX6_putNumber_40 (fun u1 H locs hp h => ?_)
      have Eu1 := hp; clear hp; rw [xset_nI (by omega) (by decide), hv9, wr_dg, w_dg, dgR_s] at Eu1
      refine lv_iinc (v := nI (t + 1)) (lv' := [(6, .int (nI (t + 1))), (0, .ref (ad 3)), (1, .int (nI q9)), (2, .int wd), (3, .int (nI 0)), (4, .long (lN (q9 / 10 ^ t)))]) hx hb dX6_putNumber_43 hl (k := 5) rfl (nI_add _ _) (by decide) rfl (fun ls hl => ?_)
      refine lv_lload hx hb dX6_putNumber_46 (lv_at hl 5 rfl) ?_
      refine lv_ldc2 (v := 10) hx hb C.2.2.2.1 (C.2.2.2.2.1 _ tb831) dX6_putNumber_48 ?_
      refine lv_ldiv hx hb dX6_putNumber_51 (by decide) ?_
      refine x_topl (y := lN (q9 / 10 ^ (t + 1))) (by rw [Nat.pow_succ, ← Nat.div_div_eq_div_mul]; exact pk_lDiv (b := 10) (Nat.lt_of_le_of_lt (Nat.div_le_self _ _) (by omega)) (by decide) (by decide)) ?_
      refine lv_lstore (lv' := [(4, .long (lN (q9 / 10 ^ (t + 1)))), (6, .int (nI (t + 1))), (0, .ref (ad 3)), (1, .int (nI q9)), (2, .int wd), (3, .int (nI 0))]) hx hb dX6_putNumber_52 hl (by decide) rfl (fun ls hl => ?_)
      refine lv_lload hx hb dX6_putNumber_54 (lv_at hl 0 rfl) ?_
      refine lv_lconst (v := 0) hx hb dX6_putNumber_56 (by decide) ?_
      refine x_lcmp hx hb dX6_putNumber_57 (fun r3 hr3 => ?_)
      refine lv_if_le (tgt := 68) hx hb dX6_putNumber_58 (by decide) (fun c58 => ?_) (fun c58 => ?_)
      · have a0 : q9 / 10 ^ t / 10 = 0 := by rw [Nat.div_div_eq_div_mul, ← Nat.pow_succ]; exact (lg_n0 (Nat.lt_of_le_of_lt (Nat.div_le_self _ _) hm)).mp (by rw [← hr3]; exact c58)
        have hsz : dsz 9 q9 = t + 1 := by rw [ht, dsz_1 a0]
        refine lv_iload_n hx hb dX6_putNumber_68 rfl (lv_at hl 5 rfl) ?_
        refine x_ifN_eq (tgt := 79) hx hb dX6_putNumber_69 (by decide) (by decide) (fun _ => ?_) (fun z9 => absurd z9 (by decide))
        refine lv_iload hx hb dX6_putNumber_79 (lv_at hl 1 rfl) ?_
        refine lv_istore (lv' := [(7, .int (nI (t + 1))), (4, .long (lN (q9 / 10 ^ (t + 1)))), (6, .int (nI (t + 1))), (0, .ref (ad 3)), (1, .int (nI q9)), (2, .int wd), (3, .int (nI 0))]) hx hb dX6_putNumber_81 hl (by decide) rfl (fun ls hl => ?_)
        have L83 : ∀ (N83 : Nat) (v8 : XS) (x9 : Int32 × Int32) (k : Nat) (hv8 : v8 = wrS st (dgR dg q9 (t + 1), ln, lf, sm, x9.1, x9.2)) (hx9 : x9 = wPuts wn (c9, kp) (List.replicate (k - (t + 1)) (nI 32))) (hk1 : t + 1 ≤ k) (hk2 : k = t + 1 ∨ k ≤ wd.toNatClampNeg) (hN : wd.toNatClampNeg + t + 2 - k < N83) (H : Heap) (locs : List Loc) (ls : Array Slot), xH D cy ad Ls (XA ad Ls sz) s v8 H locs → lv_has ls 8 [(0, .ref (ad 3)), (1, .int (nI q9)), (2, .int wd), (3, .int (nI 0)), (6, .int (nI (t + 1))), (7, .int (nI k))] → W p l e (xR 3) s m args below meth c H locs 0 0 (MQ below (va_Qv (fun u => u = wrS st (dgR dg q9 (dsz 9 q9), ln, lf, sm, wPuts wn (c9, kp) (numT q9 wd.toNatClampNeg))) (fun u => xPost D cy ad Ls (XA ad Ls sz) u) (XA ad Ls sz)) args s 0 0 (XA ad Ls sz)) (F0 m 83 ls []) := by
          intro N83
          induction N83 with
          | zero => intro v8 x9 k hv8 hx9 hk1 hk2 hN; omega
          | succ N83 ih83 =>
            intro v8 x9 k hv8 hx9 hk1 hk2 hN H locs ls h hl
            refine lv_iload hx hb dX6_putNumber_83 (lv_at hl 5 rfl) ?_
            refine lv_iload_n hx hb dX6_putNumber_85 rfl (lv_at hl 2 rfl) ?_
            refine lv_icmp_ge (tgt := 101) hx hb dX6_putNumber_86 (by decide) (fun c86 => ?_) (fun c86 => ?_)
            · refine lv_iload_n hx hb dX6_putNumber_101 rfl (lv_at hl 3 rfl) ?_
              refine x_ifN_eq (tgt := 111) hx hb dX6_putNumber_102 (by decide) (by decide) (fun _ => ?_) (fun z9 => absurd z9 (by decide))
              refine lv_iload hx hb dX6_putNumber_111 (lv_at hl 4 rfl) ?_
              refine lv_iconst (v := nI 1) hx hb dX6_putNumber_113 (by decide) ?_
              refine lv_isub hx hb dX6_putNumber_114 ?_
              refine x_topi (y := nI (t + 1) + (-1)) (Int32.sub_eq_add_neg _ _) ?_
              refine lv_istore (lv' := [(7, .int (nI (t + 1) + (-1))), (0, .ref (ad 3)), (1, .int (nI q9)), (2, .int wd), (3, .int (nI 0)), (6, .int (nI (t + 1)))]) hx hb dX6_putNumber_115 hl (by decide) rfl (fun ls hl => ?_)
              have L117 : ∀ (N117 : Nat) (v7 : XS) (x8 : Int32 × Int32) (j : Nat) (hv7 : v7 = wrS st (dgR dg q9 (t + 1), ln, lf, sm, x8.1, x8.2)) (hF : wPuts wn (c9, kp) (numT q9 wd.toNatClampNeg) = wPuts wn x8 (dgT q9 j)) (hj1 : j ≤ t + 1) (hN : j < N117) (H : Heap) (locs : List Loc) (ls : Array Slot), xH D cy ad Ls (XA ad Ls sz) s v7 H locs → lv_has ls 8 [(0, .ref (ad 3)), (7, .int (nI j + (-1)))] → W p l e (xR 3) s m args below meth c H locs 0 0 (MQ below (va_Qv (fun u => u = wrS st (dgR dg q9 (dsz 9 q9), ln, lf, sm, wPuts wn (c9, kp) (numT q9 wd.toNatClampNeg))) (fun u => xPost D cy ad Ls (XA ad Ls sz) u) (XA ad Ls sz)) args s 0 0 (XA ad Ls sz)) (F0 m 117 ls []) := by
                intro N117
                induction N117 with
                | zero => intro v7 x8 j hv7 hF hj1 hN; omega
                | succ N117 ih117 =>
                  intro v7 x8 j hv7 hF hj1 hN H locs ls h hl
                  rcases j with _ | j
                  · replace hl : lv_has ls 8 [(0, .ref (ad 3)), (7, .int (-1))] := hl
                    refine lv_iload hx hb dX6_putNumber_117 (lv_at hl 1 rfl) ?_
                    refine lv_if_lt (tgt := 145) hx hb dX6_putNumber_119 (by decide) (fun _ => ?_) (fun q => absurd q (by decide))
                    exact x_vret C hr hlocks h (by rw [hF]; show _ = wrS st (_, ln, lf, sm, wPuts wn x8 []); rw [hsz]; exact hv7) dX6_putNumber_145
                  · rw [nI_m1] at hl
                    refine lv_iload hx hb dX6_putNumber_117 (lv_at hl 1 rfl) ?_
                    refine x_if_lt_f hx hb dX6_putNumber_119 (nI_pos (by omega)) ?_
                    refine lv_aload_n hx hb dX6_putNumber_122 rfl (lv_at hl 0 rfl) ?_
                    refine lv_bipush (v := nI 48) hx hb dX6_putNumber_123 (by decide) ?_
                    refine lv_aload_n hx hb dX6_putNumber_125 rfl (lv_at hl 0 rfl) ?_
                    refine gf_X6_11 C h (hL 3 rfl) rfl (k2 := 12) rfl dX6_putNumber_126 ?_
                    refine lv_iload hx hb dX6_putNumber_129 (lv_at hl 1 rfl) ?_
                    refine cl_X6_49 C h (c_X7_get l D cy ad Ls v7 (hL 12 rfl) (n := 10) rfl (by decide) (nI j)) (x_room (by omega)) ⟨Nat.zero_le _, Nat.zero_le _⟩ hl.1 (Nat.le_of_ble_eq_true rfl) dX6_putNumber_131 (fun r5 u4 H locs hp h => ?_)
                    obtain ⟨er5, eu4⟩ := hp; rw [eu4] at h; clear eu4 u4; refine x_topi er5 ?_; clear er5 r5
                    refine x_topi (y := nI (q9 / 10 ^ j % 10)) (by rw [xget_nI (show j < 10 by omega) (by decide), hv7, wr_dg, dgR, if_pos (by omega)]) ?_
                    refine x_addN hx hb dX6_putNumber_134 ?_
                    refine lv_i2c hx hb dX6_putNumber_135 rfl ?_
                    refine x_topi (y := nI (48 + q9 / 10 ^ j % 10)) (nI_chr (by omega)) ?_
                    rw [hv7] at h
                    refine cl_X6_59 C h (hL 3 rfl) rfl (c_X6_put l D cy ad Ls st hL wn hwn (dgR dg q9 (t + 1)) ln lf sm x8.1 x8.2 (nI (48 + q9 / 10 ^ j % 10)) (chr_ok0 (by omega))) (x_room (by omega)) ⟨Nat.zero_le _, Nat.zero_le _⟩ hl.1 (Nat.le_of_ble_eq_true rfl) dX6_putNumber_136 (fun u6 H locs hp h => ?_)
                    obtain ⟨y8, ey8⟩ : ∃ y, y = wPut wn (x8.1, x8.2) (nI (48 + q9 / 10 ^ j % 10)) := ⟨_, rfl⟩
                    rw [← ey8] at hp
                    have Eu6 : u6 = wrS st ((dgR dg q9 (t + 1)), ln, lf, sm, y8.1, y8.2) := hp; clear hp
                    refine lv_iinc (v := nI j + (-1)) (lv' := [(7, .int (nI j + (-1))), (0, .ref (ad 3))]) hx hb dX6_putNumber_139 hl (k := 1) rfl rfl (by decide) rfl (fun ls hl => ?_)
                    refine lv_goto (tgt := 117) hx hb dX6_putNumber_142 (by decide) ?_
                    exact ih117 u6 y8 j Eu6 (by rw [hF]; show wPuts wn (wPut wn x8 _) _ = _; rw [ey8]) (by omega) (by omega) H locs ls h (lv_sub hl [1, 0] rfl)
              have hw9 : wd.toNatClampNeg ≤ k := (cl_le (by omega)).mp c86
              exact L117 (t + 2) v8 x9 (t + 1) hv8 (by rw [numT, hsz, wPuts_app, show wd.toNatClampNeg - (t + 1) = k - (t + 1) by omega, ← hx9]) (Nat.le_refl _) (Nat.lt_succ_self _) H locs ls h (lv_sub hl [1, 0] rfl)
            · refine lv_aload_n hx hb dX6_putNumber_89 rfl (lv_at hl 0 rfl) ?_
              refine lv_bipush (v := nI 32) hx hb dX6_putNumber_90 (by decide) ?_
              rw [hv8] at h
              refine cl_X6_59 C h (hL 3 rfl) rfl (c_X6_put l D cy ad Ls st hL wn hwn (dgR dg q9 (t + 1)) ln lf sm x9.1 x9.2 (nI 32) (chr_ok0 (by omega))) (x_room (by omega)) ⟨Nat.zero_le _, Nat.zero_le _⟩ hl.1 (Nat.le_of_ble_eq_true rfl) dX6_putNumber_92 (fun u9 H locs hp h => ?_)
              obtain ⟨y11, ey11⟩ : ∃ y, y = wPut wn (x9.1, x9.2) (nI 32) := ⟨_, rfl⟩
              rw [← ey11] at hp
              have Eu9 : u9 = wrS st ((dgR dg q9 (t + 1)), ln, lf, sm, y11.1, y11.2) := hp; clear hp
              refine lv_iinc (v := nI (k + 1)) (lv' := [(7, .int (nI (k + 1))), (0, .ref (ad 3)), (1, .int (nI q9)), (2, .int wd), (3, .int (nI 0)), (6, .int (nI (t + 1)))]) hx hb dX6_putNumber_95 hl (k := 5) rfl (nI_add _ _) (by decide) rfl (fun ls hl => ?_)
              refine lv_goto (tgt := 83) hx hb dX6_putNumber_98 (by decide) ?_
              exact ih83 u9 y11 (k + 1) Eu9 (by rw [show k + 1 - (t + 1) = (k - (t + 1)) + 1 by omega, rep_s, wPuts_app, ← hx9]; exact ey11) (by omega) (Or.inr (by have := c86; rw [cl_le (by omega)] at this; omega)) (by omega) H locs ls h (lv_sub hl [1, 2, 3, 4, 5, 0] rfl)
        exact L83 (wd.toNatClampNeg + t + 3) u1 (c9, kp) (t + 1) Eu1 (by rw [Nat.sub_self]; rfl) (Nat.le_refl _) (Or.inl rfl) (by omega) H locs ls h (lv_sub hl [3, 4, 5, 6, 2, 0] rfl)
      · refine lv_iload hx hb dX6_putNumber_61 (lv_at hl 1 rfl) ?_
        refine lv_bipush (v := nI 10) hx hb dX6_putNumber_63 (by decide) ?_
        refine x_icmpN_lt (tgt := 27) hx hb dX6_putNumber_65 (by decide) (by omega) (by omega) (fun c65 => ?_) (fun c65 => ?_)
        · have a0 : ¬ q9 / 10 ^ t / 10 = 0 := fun q => c58 (by rw [hr3]; exact (lg_n0 (Nat.lt_of_le_of_lt (Nat.div_le_self _ _) hm)).mpr (by rw [Nat.pow_succ, ← Nat.div_div_eq_div_mul]; exact q))
          exact ih27 u1 (t + 1) Eu1 (by rw [ht, show 9 - t = (9 - (t + 1)) + 1 by omega, dsz, if_neg a0, Nat.pow_succ, ← Nat.div_div_eq_div_mul]; omega) (by omega) (by omega) H locs ls h (lv_sub hl [2, 3, 4, 5, 0, 1] rfl)
        · have e10 : t + 1 = 10 := by omega
          refine absurd ((lg_n0 (Nat.lt_of_le_of_lt (Nat.div_le_self _ _) hm)).mpr ?_) (by rw [← hr3]; exact c58)
          rw [e10]; exact Nat.div_eq_of_lt (by omega)
  exact L27 10 v 0 (by rw [dgR_0]; exact hv) (by rw [Nat.pow_zero, Nat.div_one, Nat.zero_add]) (by omega) (by omega) H locs ls h (lv_sub hl [3, 4, 5, 2, 1, 0] rfl)
