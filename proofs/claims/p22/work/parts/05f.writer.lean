/-! ===== InvoiceSmith$Writer ===== -/
theorem lg_lt {x y : Int64} : 0 ≤ lg_cmp x y ↔ ¬ x < y := by
  unfold lg_cmp
  split
  · rename_i h; exact ⟨fun _ q => by have h1 := Int64.lt_iff_toInt_lt.mp h; have h2 := Int64.lt_iff_toInt_lt.mp q; omega, fun _ => by decide⟩
  · rename_i h; split
    · rename_i h2; subst h2; exact ⟨fun _ => h, fun _ => by decide⟩
    · rename_i h2
      refine ⟨fun q => absurd q (by decide), fun q => absurd (Int64.toInt_inj.mp ?_) h2⟩
      have h3 : ¬ y.toInt < x.toInt := fun z => h (Int64.lt_iff_toInt_lt.mpr z)
      rw [Int64.lt_iff_toInt_lt] at q
      omega
theorem lg_gt {x y : Int64} : lg_cmp x y ≤ 0 ↔ ¬ y < x := by
  unfold lg_cmp
  split
  · rename_i h; exact ⟨fun q => absurd q (by decide), fun q => absurd h q⟩
  · rename_i h; split
    · exact ⟨fun _ => h, fun _ => by decide⟩
    · exact ⟨fun _ => h, fun _ => by decide⟩
theorem lg_n0 {a : Nat} (h : a < 2 ^ 31) : lg_cmp (lN a) 0 ≤ 0 ↔ a = 0 := by
  rw [lg_gt]
  show ¬ lN 0 < lN a ↔ _
  rw [lN_lt (by decide) h]
  omega
theorem cl_le {x : Int32} {k : Nat} (hk : k < 2 ^ 31) : x ≤ nI k ↔ x.toNatClampNeg ≤ k := by
  rw [Int32.le_iff_toInt_le, nI_toInt hk]
  show _ ↔ x.toInt.toNat ≤ k
  omega
theorem nI_m1 (j : Nat) : nI (j + 1) + (-1) = nI j := by
  rw [show (nI (j + 1) : Int32) = nI j + nI 1 from (nI_add j 1).symm, Int32.add_assoc]
  show nI j + 0 = nI j
  exact Int32.add_zero _
abbrev chr (x : Int32) : Int32 := (x.toUInt32 % 65536).toInt32
/-- what is counted and what is kept -/
def wPut (wn : Int32) (x : Int32 × Int32) (ch : Int32) : Int32 × Int32 := (x.1 + nI 1, if x.1 = wn then ch else x.2)
def wPuts (wn : Int32) (x : Int32 × Int32) (l : List Int32) : Int32 × Int32 := l.foldl (wPut wn) x
abbrev WS : Type := (Nat → Int32) × Int32 × Int64 × Int64 × (Int32 × Int32)
/-- the writer's state: digits, line, left, sum, (count, kept) -/
def wrS (st : XS) (w : WS) : XS := si (si (sl (sl (si (sa st 12 w.1) 4 3 w.2.1) 5 3 w.2.2.1) 6 3 w.2.2.2.1) 3 3 w.2.2.2.2.2) 1 3 w.2.2.2.2.1
section
variable (st : XS) (dg : Nat → Int32) (ln : Int32) (lf sm : Int64) (c kp : Int32)
theorem wr_c : gi (wrS st (dg, ln, lf, sm, c, kp)) 1 3 = c := by unfold wrS; rw [gi_si, if_pos ⟨rfl, rfl⟩]
theorem wr_k : gi (wrS st (dg, ln, lf, sm, c, kp)) 3 3 = kp := by unfold wrS; rw [gi_si, if_neg (by decide), gi_si, if_pos ⟨rfl, rfl⟩]
theorem wr_l : gi (wrS st (dg, ln, lf, sm, c, kp)) 4 3 = ln := by unfold wrS; rw [gi_si, if_neg (by decide), gi_si, if_neg (by decide), gi_sl, gi_sl, gi_si, if_pos ⟨rfl, rfl⟩]
theorem wr_o {f k : Nat} (h : ¬ k = 3 ∨ f = 2) : gi (wrS st (dg, ln, lf, sm, c, kp)) f k = gi st f k := by
  unfold wrS; rw [gi_si, if_neg (by omega), gi_si, if_neg (by omega), gi_sl, gi_sl, gi_si, if_neg (by omega), gi_sa]
theorem wr_lf : gl (wrS st (dg, ln, lf, sm, c, kp)) 5 3 = lf := by unfold wrS; rw [gl_si, gl_si, gl_sl, if_neg (by decide), gl_sl, if_pos ⟨rfl, rfl⟩]
theorem wr_sm : gl (wrS st (dg, ln, lf, sm, c, kp)) 6 3 = sm := by unfold wrS; rw [gl_si, gl_si, gl_sl, if_pos ⟨rfl, rfl⟩]
theorem wr_dg : ga (wrS st (dg, ln, lf, sm, c, kp)) 12 = dg := by unfold wrS; rw [ga_si, ga_si, ga_sl, ga_sl, ga_si, ga_self]
theorem wr_ga {k : Nat} (h : ¬ k = 12) : ga (wrS st (dg, ln, lf, sm, c, kp)) k = ga st k := by unfold wrS; rw [ga_si, ga_si, ga_sl, ga_sl, ga_si, ga_sa, if_neg h]
theorem wr_gp {f k : Nat} {w : WS} : gp (wrS st w) f k = gp st f k := rfl
theorem wr_gb {k : Nat} {w : WS} : gb (wrS st w) k = gb st k := rfl
theorem w_c (v : Int32) : si (wrS st (dg, ln, lf, sm, c, kp)) 1 3 v = wrS st (dg, ln, lf, sm, v, kp) := by unfold wrS; rw [si_si]
theorem w_k (v : Int32) : si (wrS st (dg, ln, lf, sm, c, kp)) 3 3 v = wrS st (dg, ln, lf, sm, c, v) := by
  refine XS_ext (fun f k => ?_) (fun _ _ => rfl) (fun _ _ => rfl) (fun _ => rfl) (fun _ => rfl)
  unfold wrS; simp only [gi_si]; by_cases h1 : f = 3 ∧ k = 3
  · rw [if_pos h1, if_neg (by omega), if_pos h1]
  · rw [if_neg h1, if_neg h1, if_neg h1]
theorem w_l (v : Int32) : si (wrS st (dg, ln, lf, sm, c, kp)) 4 3 v = wrS st (dg, v, lf, sm, c, kp) := by
  refine XS_ext (fun f k => ?_) (fun _ _ => rfl) (fun _ _ => rfl) (fun _ => rfl) (fun _ => rfl)
  unfold wrS; simp only [gi_si, gi_sl]; by_cases h1 : f = 4 ∧ k = 3
  · rw [if_pos h1, if_neg (by omega), if_neg (by omega), if_pos h1]
  · rw [if_neg h1, if_neg h1, if_neg h1]
theorem w_lf (v : Int64) : sl (wrS st (dg, ln, lf, sm, c, kp)) 5 3 v = wrS st (dg, ln, v, sm, c, kp) := by
  refine XS_ext (fun _ _ => rfl) (fun f k => ?_) (fun _ _ => rfl) (fun _ => rfl) (fun _ => rfl)
  unfold wrS; simp only [gl_si, gl_sl]; by_cases h1 : f = 5 ∧ k = 3
  · rw [if_pos h1, if_neg (by omega), if_pos h1]
  · rw [if_neg h1, if_neg h1, if_neg h1]
theorem w_sm (v : Int64) : sl (wrS st (dg, ln, lf, sm, c, kp)) 6 3 v = wrS st (dg, ln, lf, v, c, kp) := by
  refine XS_ext (fun _ _ => rfl) (fun f k => ?_) (fun _ _ => rfl) (fun _ => rfl) (fun _ => rfl)
  unfold wrS; simp only [gl_si, gl_sl]; by_cases h1 : f = 6 ∧ k = 3
  · rw [if_pos h1, if_pos h1]
  · rw [if_neg h1, if_neg h1, if_neg h1]
theorem w_dg (v : Nat → Int32) : sa (wrS st (dg, ln, lf, sm, c, kp)) 12 v = wrS st (v, ln, lf, sm, c, kp) := by
  refine XS_ext (fun _ _ => rfl) (fun _ _ => rfl) (fun _ _ => rfl) (fun k => ?_) (fun _ => rfl)
  unfold wrS; simp only [ga_si, ga_sl, ga_sa]; by_cases h1 : k = 12
  · rw [if_pos h1, if_pos h1]
  · rw [if_neg h1, if_neg h1, if_neg h1]
end
/-- how many digits a number has, by a bound -/
def dsz : Nat → Nat → Nat
  | 0, _ => 1
  | k + 1, m => if m / 10 = 0 then 1 else dsz k (m / 10) + 1
def dgR (f : Nat → Int32) (m t : Nat) : Nat → Int32 := fun j => if j < t then nI (m / 10 ^ j % 10) else f j
theorem dgR_s (f : Nat → Int32) (m t : Nat) : upd (dgR f m t) t (nI (m / 10 ^ t % 10)) = dgR f m (t + 1) := by
  funext q
  unfold upd dgR
  by_cases h1 : q = t
  · subst h1; rw [if_pos rfl, if_pos (by omega)]
  · rw [if_neg h1]
    by_cases h2 : q < t
    · rw [if_pos h2, if_pos (by omega)]
    · rw [if_neg h2, if_neg (by omega)]
/-- the digits of a number from place t - 1 down -/
def dgT (m : Nat) : Nat → List Int32
  | 0 => []
  | t + 1 => nI (48 + m / 10 ^ t % 10) :: dgT m t
/-- a number as it is written, at least so wide -/
def numT (m w : Nat) : List Int32 := List.replicate (w - dsz 9 m) (nI 32) ++ dgT m (dsz 9 m)
theorem dsz_le : ∀ (k m : Nat), dsz k m ≤ k + 1 := by
  intro k
  induction k with
  | zero => intro m; exact Nat.le_refl _
  | succ k ih =>
    intro m
    rw [dsz]
    split
    · omega
    · have := ih (m / 10); omega
theorem wPuts_app (wn : Int32) (x : Int32 × Int32) (l1 l2 : List Int32) : wPuts wn x (l1 ++ l2) = wPuts wn (wPuts wn x l1) l2 := List.foldl_append
theorem rep_s (n : Nat) (a : Int32) : List.replicate (n + 1) a = List.replicate n a ++ [a] := List.replicate_succ'
theorem nI_chr {n : Nat} (h : n < 65536) : ((nI n).toUInt32 % 65536).toInt32 = nI n := by
  apply Int32.toBitVec_inj.mp
  apply BitVec.eq_of_toNat_eq
  show ((nI n).toUInt32 % 65536).toNat = (BitVec.ofNat 32 n).toNat
  rw [UInt32.toNat_mod]
  show (BitVec.ofNat 32 n).toNat % 65536 = _
  rw [BitVec.toNat_ofNat, Nat.mod_eq_of_lt (show n < 2 ^ 32 by omega), Nat.mod_eq_of_lt h]

set_option maxHeartbeats 4000000 in
set_option maxRecDepth 100000 in
theorem c_X6_put (l : Launch) (D : va_G) (cy : Nat → ClassId) (ad : Nat → Nat) (Ls : List Nat) (st : XS) (hL : ∀ k, xC k = true → k ∈ Ls) (wn : Int32) (hwn : gi st 2 3 = wn) (dg : Nat → Int32) (ln : Int32) (lf sm : Int64) (c9 kp : Int32) (ch : Int32) (hch : narrow .char (.int ch) = .int ch ∧ fits .char (.int ch) = true) : xMv l yX6_put cX6_put 2 1 D cy ad Ls (wrS st (dg, ln, lf, sm, c9, kp)) [.ref (ad 3), .int ch] (fun u => u = wrS st (dg, ln, lf, sm, wPut wn (c9, kp) ch)) := by
  intro sz
  refine x_of sz (by decide +kernel) (Nat.le_of_ble_eq_true rfl) ?_
  intro p e s m args below meth c ls hx hb hr hlocks C hsz h hl
  have hl : lv_has ls 2 [(0, .ref (ad 3)), (1, .int ch)] := hl
  obtain ⟨H, eH⟩ : ∃ z, z = s.heap := ⟨_, rfl⟩
  obtain ⟨locs, eL⟩ : ∃ z : List Loc, z = [] := ⟨_, rfl⟩
  rw [← eH, ← eL] at h
  rw [← eH, ← eL]
  clear eH eL
  obtain ⟨v, hv⟩ : ∃ v, v = wrS st (dg, ln, lf, sm, c9, kp) := ⟨_, rfl⟩
  rw [← hv] at h
  refine lv_aload_n hx hb dX6_put_0 rfl (lv_at hl 0 rfl) ?_
  refine gf_X6_15 C h (hL 3 rfl) rfl dX6_put_1 ?_
  refine x_topi (y := c9) (by rw [hv]; exact wr_c ..) ?_
  refine lv_aload_n hx hb dX6_put_4 rfl (lv_at hl 0 rfl) ?_
  refine gf_X6_19 C h (hL 3 rfl) rfl dX6_put_5 ?_
  refine x_topi (y := wn) (by rw [hv, wr_o _ _ _ _ _ _ _ (Or.inr rfl)]; exact hwn) ?_
  refine lv_icmp_ne (tgt := 16) hx hb dX6_put_8 (by decide) (fun c8 => ?_) (fun c8 => ?_)
  · refine lv_aload_n hx hb dX6_put_16 rfl (lv_at hl 0 rfl) ?_
    refine lv_dup hx hb dX6_put_17 rfl ?_
    refine gf_X6_15 C h (hL 3 rfl) rfl dX6_put_18 ?_
    refine x_topi (y := c9) (by rw [hv]; exact wr_c ..) ?_
    refine lv_iconst (v := nI 1) hx hb dX6_put_21 (by decide) ?_
    refine lv_iadd hx hb dX6_put_22 ?_
    refine pf_X6_15 C h (hL 3 rfl) rfl dX6_put_23 (fun H locs u1 eu1 h => ?_)
    rw [hv, w_c] at eu1
    exact x_vret C hr hlocks h (by rw [wPut, if_neg c8]; exact eu1) dX6_put_26
  · refine lv_aload_n hx hb dX6_put_11 rfl (lv_at hl 0 rfl) ?_
    refine lv_iload_n hx hb dX6_put_12 rfl (lv_at hl 1 rfl) ?_
    refine pf_X6_22 C h (hL 3 rfl) rfl (by first | exact hch.1 | assumption) (by first | exact hch.2 | assumption) dX6_put_13 (fun H locs u2 eu2 h => ?_)
    rw [hv, w_k] at eu2
    refine lv_aload_n hx hb dX6_put_16 rfl (lv_at hl 0 rfl) ?_
    refine lv_dup hx hb dX6_put_17 rfl ?_
    refine gf_X6_15 C h (hL 3 rfl) rfl dX6_put_18 ?_
    refine x_topi (y := c9) (by rw [eu2]; exact wr_c ..) ?_
    refine lv_iconst (v := nI 1) hx hb dX6_put_21 (by decide) ?_
    refine lv_iadd hx hb dX6_put_22 ?_
    refine pf_X6_15 C h (hL 3 rfl) rfl dX6_put_23 (fun H locs u3 eu3 h => ?_)
    rw [eu2, w_c] at eu3
    exact x_vret C hr hlocks h (by rw [wPut, if_pos c8]; exact eu3) dX6_put_26

theorem chr_n (x : Int32) : ∃ n, n < 65536 ∧ chr x = nI n := by
  refine ⟨(x.toUInt32 % 65536).toNat, ?_, ?_⟩
  · rw [UInt32.toNat_mod]; exact Nat.mod_lt _ (by decide)
  · apply Int32.toBitVec_inj.mp
    apply BitVec.eq_of_toNat_eq
    show (x.toUInt32 % 65536).toNat = (BitVec.ofNat 32 _).toNat
    rw [BitVec.toNat_ofNat, Nat.mod_eq_of_lt (x.toUInt32 % 65536).toNat_lt]
theorem chr_ok0 {n : Nat} (h : n < 65536) : narrow .char (.int (nI n)) = .int (nI n) ∧ fits .char (.int (nI n)) = true := by
  refine ⟨by rw [← nI_chr h]; exact pk_nc _, ?_⟩
  have h1 : (0 : Int32) ≤ nI n := nI_pos' (by omega)
  have h2 : nI n ≤ (65535 : Int32) := nI_le (show n ≤ 65535 by omega) (by decide)
  show (decide ((0 : Int32) ≤ nI n) && decide (nI n ≤ (65535 : Int32))) = true
  rw [decide_eq_true h1, decide_eq_true h2]; rfl
theorem chr_ok (x : Int32) : narrow .char (.int (chr x)) = .int (chr x) ∧ fits .char (.int (chr x)) = true := by
  obtain ⟨n, hn, e⟩ := chr_n x
  rw [e]; exact chr_ok0 hn
theorem dgR_0 (f : Nat → Int32) (m : Nat) : dgR f m 0 = f := by funext q; unfold dgR; rw [if_neg (by omega)]
theorem dsz_1 {k a : Nat} (h : a / 10 = 0) : dsz k a = 1 := by cases k with | zero => rfl | succ k => rw [dsz, if_pos h]

set_option maxHeartbeats 4000000 in
set_option maxRecDepth 100000 in
theorem c_X6_putNumber (l : Launch) (D : va_G) (cy : Nat → ClassId) (ad : Nat → Nat) (Ls : List Nat) (st : XS) (hL : ∀ k, xC k = true → k ∈ Ls) (wn : Int32) (hwn : gi st 2 3 = wn) (dg : Nat → Int32) (ln : Int32) (lf sm : Int64) (c9 kp : Int32) (q9 : Nat) (hm : q9 < 2 ^ 31) (wd : Int32) : xMv l yX6_putNumber cX6_putNumber 8 3 D cy ad Ls (wrS st (dg, ln, lf, sm, c9, kp)) [.ref (ad 3), .int (nI q9), .int wd] (fun u => u = wrS st (dgR dg q9 (dsz 9 q9), ln, lf, sm, wPuts wn (c9, kp) (numT q9 wd.toNatClampNeg))) := by
  intro sz
  refine x_of sz (by decide +kernel) (Nat.le_of_ble_eq_true rfl) ?_
  intro p e s m args below meth c ls hx hb hr hlocks C hsz h hl
  have hl : lv_has ls 8 [(0, .ref (ad 3)), (1, .int (nI q9)), (2, .int wd)] := hl
  have hw31 : wd.toNatClampNeg < 2 ^ 31 := by have := wd.toInt_lt; show wd.toInt.toNat < _; omega
  obtain ⟨H, eH⟩ : ∃ z, z = s.heap := ⟨_, rfl⟩
  obtain ⟨locs, eL⟩ : ∃ z : List Loc, z = [] := ⟨_, rfl⟩
  rw [← eH, ← eL] at h
  rw [← eH, ← eL]
  clear eH eL
  obtain ⟨v, hv⟩ : ∃ v, v = wrS st (dg, ln, lf, sm, c9, kp) := ⟨_, rfl⟩
  rw [← hv] at h
  refine lv_iload_n hx hb dX6_putNumber_0 rfl (lv_at hl 1 rfl) ?_
  refine x_if_ge_t (tgt := 8) hx hb dX6_putNumber_1 (by decide) (nI_pos' (by omega)) ?_
  refine lv_iconst (v := nI 0) hx hb dX6_putNumber_8 (by decide) ?_
  refine lv_istore_n (lv' := [(3, .int (nI 0)), (0, .ref (ad 3)), (1, .int (nI q9)), (2, .int wd)]) hx hb dX6_putNumber_9 rfl hl (by decide) rfl (fun ls hl => ?_)
  refine lv_iload_n hx hb dX6_putNumber_10 rfl (lv_at hl 0 rfl) ?_
  refine x_ifN_eq (tgt := 20) hx hb dX6_putNumber_11 (by decide) (by decide) (fun _ => ?_) (fun z9 => absurd z9 (by decide))
  refine lv_iload_n hx hb dX6_putNumber_20 rfl (lv_at hl 2 rfl) ?_
  refine lv_i2l hx hb dX6_putNumber_21 rfl ?_
  refine x_topl (y := lN (q9 / 10 ^ 0)) (by rw [Nat.pow_zero, Nat.div_one]; exact nI_l hm) ?_
  refine lv_lstore (lv' := [(4, .long (lN (q9 / 10 ^ 0))), (3, .int (nI 0)), (0, .ref (ad 3)), (1, .int (nI q9)), (2, .int wd)]) hx hb dX6_putNumber_22 hl (by decide) rfl (fun ls hl => ?_)
  refine lv_iconst (v := nI 0) hx hb dX6_putNumber_24 (by decide) ?_
  refine lv_istore (lv' := [(6, .int (nI 0)), (4, .long (lN (q9 / 10 ^ 0))), (3, .int (nI 0)), (0, .ref (ad 3)), (1, .int (nI q9)), (2, .int wd)]) hx hb dX6_putNumber_25 hl (by decide) rfl (fun ls hl => ?_)
  have L27 : ∀ (N27 : Nat) (v9 : XS) (t : Nat) (hv9 : v9 = wrS st (dgR dg q9 t, ln, lf, sm, c9, kp)) (ht : dsz 9 q9 = t + dsz (9 - t) (q9 / 10 ^ t)) (ht9 : t ≤ 9) (hN : 9 - t < N27) (H : Heap) (locs : List Loc) (ls : Array Slot), xH D cy ad Ls (XA ad Ls sz) s v9 H locs → lv_has ls 8 [(0, .ref (ad 3)), (1, .int (nI q9)), (2, .int wd), (3, .int (nI 0)), (4, .long (lN (q9 / 10 ^ t))), (6, .int (nI t))] → W p l e (xR 3) s m args below meth c H locs 0 0 (MQ below (va_Qv (fun u => u = wrS st (dgR dg q9 (dsz 9 q9), ln, lf, sm, wPuts wn (c9, kp) (numT q9 wd.toNatClampNeg))) (fun u => xPost D cy ad Ls (XA ad Ls sz) u) (XA ad Ls sz)) args s 0 0 (XA ad Ls sz)) (F0 m 27 ls []) := by
    intro N27
    induction N27 with
    | zero => intro v9 t hv9 ht ht9 hN; omega
    | succ N27 ih27 =>
      intro v9 t hv9 ht ht9 hN H locs ls h hl
      refine lv_aload_n hx hb dX6_putNumber_27 rfl (lv_at hl 0 rfl) ?_
      refine gf_X6_11 C h (hL 3 rfl) rfl (k2 := 12) rfl dX6_putNumber_28 ?_
      refine lv_iload hx hb dX6_putNumber_31 (lv_at hl 5 rfl) ?_
      refine lv_lload hx hb dX6_putNumber_33 (lv_at hl 4 rfl) ?_
      refine lv_ldc2 (v := 10) hx hb C.2.2.2.1 (C.2.2.2.2.1 _ tb727) dX6_putNumber_35 ?_
      refine lv_lrem hx hb dX6_putNumber_38 (by decide) ?_
      refine x_topl (y := lN (q9 / 10 ^ t % 10)) (pk_lRem (b := 10) (Nat.lt_of_le_of_lt (Nat.div_le_self _ _) (by omega)) (by decide) (by decide)) ?_
      refine lv_l2i hx hb dX6_putNumber_39 rfl ?_
      refine x_topi (y := nI (q9 / 10 ^ t % 10)) (lN_i _) ?_
      refine cl_X6_87 C h (c_X7_set l D cy ad Ls v9 (hL 12 rfl) (n := 10) rfl (by decide) (nI t) (nI (q9 / 10 ^ t % 10))) (x_room (by omega)) ⟨Nat.zero_le _, Nat.zero_le _⟩ hl.1 (Nat.le_of_ble_eq_true rfl) dX6_putNumber_40 (fun u1 H locs hp h => ?_)
      have Eu1 := hp; clear hp; rw [xset_nI (by omega) (by decide), hv9, wr_dg, w_dg, dgR_s] at Eu1
      refine lv_iinc (v := nI (t + 1)) (lv' := [(6, .int (nI (t + 1))), (0, .ref (ad 3)), (1, .int (nI q9)), (2, .int wd), (3, .int (nI 0)), (4, .long (lN (q9 / 10 ^ t)))]) hx hb dX6_putNumber_43 hl (k := 5) rfl (nI_add _ _) (by decide) rfl (fun ls hl => ?_)
      refine lv_lload hx hb dX6_putNumber_46 (lv_at hl 5 rfl) ?_
      refine lv_ldc2 (v := 10) hx hb C.2.2.2.1 (C.2.2.2.2.1 _ tb727) dX6_putNumber_48 ?_
      refine lv_ldiv hx hb dX6_putNumber_51 (by decide) ?_
      refine x_topl (y := lN (q9 / 10 ^ (t + 1))) (by rw [Nat.pow_succ, ← Nat.div_div_eq_div_mul]; exact pk_lDiv (b := 10) (Nat.lt_of_le_of_lt (Nat.div_le_self _ _) (by omega)) (by decide) (by decide)) ?_
      refine lv_lstore (lv' := [(4, .long (lN (q9 / 10 ^ (t + 1)))), (6, .int (nI (t + 1))), (0, .ref (ad 3)), (1, .int (nI q9)), (2, .int wd), (3, .int (nI 0))]) hx hb dX6_putNumber_52 hl (by decide) rfl (fun ls hl => ?_)
      refine lv_lload hx hb dX6_putNumber_54 (lv_at hl 0 rfl) ?_
      refine lv_lconst (v := 0) hx hb dX6_putNumber_56 (by decide) ?_
      refine x_lcmp hx hb dX6_putNumber_57 (fun r3 hr3 => ?_)
      refine lv_if_le (tgt := 68) hx hb dX6_putNumber_58 (by decide) (fun c58 => ?_) (fun c58 => ?_)
      · have a0 : q9 / 10 ^ t / 10 = 0 := by rw [Nat.div_div_eq_div_mul, ← Nat.pow_succ]; exact (lg_n0 (Nat.lt_of_le_of_lt (Nat.div_le_self _ _) hm)).mp (by rw [← hr3]; exact c58)
        have hsz : dsz 9 q9 = t + 1 := by rw [ht, dsz_1 a0]
        refine lv_iload_n hx hb dX6_putNumber_68 rfl (lv_at hl 5 rfl) ?_
        refine x_ifN_eq (tgt := 79) hx hb dX6_putNumber_69 (by decide) (by decide) (fun _ => ?_) (fun z9 => absurd z9 (by decide))
        refine lv_iload hx hb dX6_putNumber_79 (lv_at hl 1 rfl) ?_
        refine lv_istore (lv' := [(7, .int (nI (t + 1))), (4, .long (lN (q9 / 10 ^ (t + 1)))), (6, .int (nI (t + 1))), (0, .ref (ad 3)), (1, .int (nI q9)), (2, .int wd), (3, .int (nI 0))]) hx hb dX6_putNumber_81 hl (by decide) rfl (fun ls hl => ?_)
        have L83 : ∀ (N83 : Nat) (v8 : XS) (x9 : Int32 × Int32) (k : Nat) (hv8 : v8 = wrS st (dgR dg q9 (t + 1), ln, lf, sm, x9.1, x9.2)) (hx9 : x9 = wPuts wn (c9, kp) (List.replicate (k - (t + 1)) (nI 32))) (hk1 : t + 1 ≤ k) (hk2 : k = t + 1 ∨ k ≤ wd.toNatClampNeg) (hN : wd.toNatClampNeg + t + 2 - k < N83) (H : Heap) (locs : List Loc) (ls : Array Slot), xH D cy ad Ls (XA ad Ls sz) s v8 H locs → lv_has ls 8 [(0, .ref (ad 3)), (1, .int (nI q9)), (2, .int wd), (3, .int (nI 0)), (6, .int (nI (t + 1))), (7, .int (nI k))] → W p l e (xR 3) s m args below meth c H locs 0 0 (MQ below (va_Qv (fun u => u = wrS st (dgR dg q9 (dsz 9 q9), ln, lf, sm, wPuts wn (c9, kp) (numT q9 wd.toNatClampNeg))) (fun u => xPost D cy ad Ls (XA ad Ls sz) u) (XA ad Ls sz)) args s 0 0 (XA ad Ls sz)) (F0 m 83 ls []) := by
          intro N83
          induction N83 with
          | zero => intro v8 x9 k hv8 hx9 hk1 hk2 hN; omega
          | succ N83 ih83 =>
            intro v8 x9 k hv8 hx9 hk1 hk2 hN H locs ls h hl
            refine lv_iload hx hb dX6_putNumber_83 (lv_at hl 5 rfl) ?_
            refine lv_iload_n hx hb dX6_putNumber_85 rfl (lv_at hl 2 rfl) ?_
            refine lv_icmp_ge (tgt := 101) hx hb dX6_putNumber_86 (by decide) (fun c86 => ?_) (fun c86 => ?_)
            · refine lv_iload_n hx hb dX6_putNumber_101 rfl (lv_at hl 3 rfl) ?_
              refine x_ifN_eq (tgt := 111) hx hb dX6_putNumber_102 (by decide) (by decide) (fun _ => ?_) (fun z9 => absurd z9 (by decide))
              refine lv_iload hx hb dX6_putNumber_111 (lv_at hl 4 rfl) ?_
              refine lv_iconst (v := nI 1) hx hb dX6_putNumber_113 (by decide) ?_
              refine lv_isub hx hb dX6_putNumber_114 ?_
              refine x_topi (y := nI (t + 1) + (-1)) (Int32.sub_eq_add_neg _ _) ?_
              refine lv_istore (lv' := [(7, .int (nI (t + 1) + (-1))), (0, .ref (ad 3)), (1, .int (nI q9)), (2, .int wd), (3, .int (nI 0)), (6, .int (nI (t + 1)))]) hx hb dX6_putNumber_115 hl (by decide) rfl (fun ls hl => ?_)
              have L117 : ∀ (N117 : Nat) (v7 : XS) (x8 : Int32 × Int32) (j : Nat) (hv7 : v7 = wrS st (dgR dg q9 (t + 1), ln, lf, sm, x8.1, x8.2)) (hF : wPuts wn (c9, kp) (numT q9 wd.toNatClampNeg) = wPuts wn x8 (dgT q9 j)) (hj1 : j ≤ t + 1) (hN : j < N117) (H : Heap) (locs : List Loc) (ls : Array Slot), xH D cy ad Ls (XA ad Ls sz) s v7 H locs → lv_has ls 8 [(0, .ref (ad 3)), (7, .int (nI j + (-1)))] → W p l e (xR 3) s m args below meth c H locs 0 0 (MQ below (va_Qv (fun u => u = wrS st (dgR dg q9 (dsz 9 q9), ln, lf, sm, wPuts wn (c9, kp) (numT q9 wd.toNatClampNeg))) (fun u => xPost D cy ad Ls (XA ad Ls sz) u) (XA ad Ls sz)) args s 0 0 (XA ad Ls sz)) (F0 m 117 ls []) := by
                intro N117
                induction N117 with
                | zero => intro v7 x8 j hv7 hF hj1 hN; omega
                | succ N117 ih117 =>
                  intro v7 x8 j hv7 hF hj1 hN H locs ls h hl
                  rcases j with _ | j
                  · replace hl : lv_has ls 8 [(0, .ref (ad 3)), (7, .int (-1))] := hl
                    refine lv_iload hx hb dX6_putNumber_117 (lv_at hl 1 rfl) ?_
                    refine lv_if_lt (tgt := 145) hx hb dX6_putNumber_119 (by decide) (fun _ => ?_) (fun q => absurd q (by decide))
                    exact x_vret C hr hlocks h (by rw [hF]; show _ = wrS st (_, ln, lf, sm, wPuts wn x8 []); rw [hsz]; exact hv7) dX6_putNumber_145
                  · rw [nI_m1] at hl
                    refine lv_iload hx hb dX6_putNumber_117 (lv_at hl 1 rfl) ?_
                    refine x_if_lt_f hx hb dX6_putNumber_119 (nI_pos (by omega)) ?_
                    refine lv_aload_n hx hb dX6_putNumber_122 rfl (lv_at hl 0 rfl) ?_
                    refine lv_bipush (v := nI 48) hx hb dX6_putNumber_123 (by decide) ?_
                    refine lv_aload_n hx hb dX6_putNumber_125 rfl (lv_at hl 0 rfl) ?_
                    refine gf_X6_11 C h (hL 3 rfl) rfl (k2 := 12) rfl dX6_putNumber_126 ?_
                    refine lv_iload hx hb dX6_putNumber_129 (lv_at hl 1 rfl) ?_
                    refine cl_X6_49 C h (c_X7_get l D cy ad Ls v7 (hL 12 rfl) (n := 10) rfl (by decide) (nI j)) (x_room (by omega)) ⟨Nat.zero_le _, Nat.zero_le _⟩ hl.1 (Nat.le_of_ble_eq_true rfl) dX6_putNumber_131 (fun r5 u4 H locs hp h => ?_)
                    obtain ⟨er5, eu4⟩ := hp; rw [eu4] at h; clear eu4 u4; refine x_topi er5 ?_; clear er5 r5
                    refine x_topi (y := nI (q9 / 10 ^ j % 10)) (by rw [xget_nI (show j < 10 by omega) (by decide), hv7, wr_dg, dgR, if_pos (by omega)]) ?_
                    refine x_addN hx hb dX6_putNumber_134 ?_
                    refine lv_i2c hx hb dX6_putNumber_135 rfl ?_
                    refine x_topi (y := nI (48 + q9 / 10 ^ j % 10)) (nI_chr (by omega)) ?_
                    rw [hv7] at h
                    refine cl_X6_59 C h (hL 3 rfl) rfl (c_X6_put l D cy ad Ls st hL wn hwn (dgR dg q9 (t + 1)) ln lf sm x8.1 x8.2 (nI (48 + q9 / 10 ^ j % 10)) (chr_ok0 (by omega))) (x_room (by omega)) ⟨Nat.zero_le _, Nat.zero_le _⟩ hl.1 (Nat.le_of_ble_eq_true rfl) dX6_putNumber_136 (fun u6 H locs hp h => ?_)
                    obtain ⟨y8, ey8⟩ : ∃ y, y = wPut wn (x8.1, x8.2) (nI (48 + q9 / 10 ^ j % 10)) := ⟨_, rfl⟩
                    rw [← ey8] at hp
                    have Eu6 : u6 = wrS st ((dgR dg q9 (t + 1)), ln, lf, sm, y8.1, y8.2) := hp; clear hp
                    refine lv_iinc (v := nI j + (-1)) (lv' := [(7, .int (nI j + (-1))), (0, .ref (ad 3))]) hx hb dX6_putNumber_139 hl (k := 1) rfl rfl (by decide) rfl (fun ls hl => ?_)
                    refine lv_goto (tgt := 117) hx hb dX6_putNumber_142 (by decide) ?_
                    exact ih117 u6 y8 j Eu6 (by rw [hF]; show wPuts wn (wPut wn x8 _) _ = _; rw [ey8]) (by omega) (by omega) H locs ls h (lv_sub hl [1, 0] rfl)
              have hw9 : wd.toNatClampNeg ≤ k := (cl_le (by omega)).mp c86
              exact L117 (t + 2) v8 x9 (t + 1) hv8 (by rw [numT, hsz, wPuts_app, show wd.toNatClampNeg - (t + 1) = k - (t + 1) by omega, ← hx9]) (Nat.le_refl _) (Nat.lt_succ_self _) H locs ls h (lv_sub hl [1, 0] rfl)
            · refine lv_aload_n hx hb dX6_putNumber_89 rfl (lv_at hl 0 rfl) ?_
              refine lv_bipush (v := nI 32) hx hb dX6_putNumber_90 (by decide) ?_
              rw [hv8] at h
              refine cl_X6_59 C h (hL 3 rfl) rfl (c_X6_put l D cy ad Ls st hL wn hwn (dgR dg q9 (t + 1)) ln lf sm x9.1 x9.2 (nI 32) (chr_ok0 (by omega))) (x_room (by omega)) ⟨Nat.zero_le _, Nat.zero_le _⟩ hl.1 (Nat.le_of_ble_eq_true rfl) dX6_putNumber_92 (fun u9 H locs hp h => ?_)
              obtain ⟨y11, ey11⟩ : ∃ y, y = wPut wn (x9.1, x9.2) (nI 32) := ⟨_, rfl⟩
              rw [← ey11] at hp
              have Eu9 : u9 = wrS st ((dgR dg q9 (t + 1)), ln, lf, sm, y11.1, y11.2) := hp; clear hp
              refine lv_iinc (v := nI (k + 1)) (lv' := [(7, .int (nI (k + 1))), (0, .ref (ad 3)), (1, .int (nI q9)), (2, .int wd), (3, .int (nI 0)), (6, .int (nI (t + 1)))]) hx hb dX6_putNumber_95 hl (k := 5) rfl (nI_add _ _) (by decide) rfl (fun ls hl => ?_)
              refine lv_goto (tgt := 83) hx hb dX6_putNumber_98 (by decide) ?_
              exact ih83 u9 y11 (k + 1) Eu9 (by rw [show k + 1 - (t + 1) = (k - (t + 1)) + 1 by omega, rep_s, wPuts_app, ← hx9]; exact ey11) (by omega) (Or.inr (by have := c86; rw [cl_le (by omega)] at this; omega)) (by omega) H locs ls h (lv_sub hl [1, 2, 3, 4, 5, 0] rfl)
        exact L83 (wd.toNatClampNeg + t + 3) u1 (c9, kp) (t + 1) Eu1 (by rw [Nat.sub_self]; rfl) (Nat.le_refl _) (Or.inl rfl) (by omega) H locs ls h (lv_sub hl [3, 4, 5, 6, 2, 0] rfl)
      · refine lv_iload hx hb dX6_putNumber_61 (lv_at hl 1 rfl) ?_
        refine lv_bipush (v := nI 10) hx hb dX6_putNumber_63 (by decide) ?_
        refine x_icmpN_lt (tgt := 27) hx hb dX6_putNumber_65 (by decide) (by omega) (by omega) (fun c65 => ?_) (fun c65 => ?_)
        · have a0 : ¬ q9 / 10 ^ t / 10 = 0 := fun q => c58 (by rw [hr3]; exact (lg_n0 (Nat.lt_of_le_of_lt (Nat.div_le_self _ _) hm)).mpr (by rw [Nat.pow_succ, ← Nat.div_div_eq_div_mul]; exact q))
          exact ih27 u1 (t + 1) Eu1 (by rw [ht, show 9 - t = (9 - (t + 1)) + 1 by omega, dsz, if_neg a0, Nat.pow_succ, ← Nat.div_div_eq_div_mul]; omega) (by omega) (by omega) H locs ls h (lv_sub hl [2, 3, 4, 5, 0, 1] rfl)
        · have e10 : t + 1 = 10 := by omega
          refine absurd ((lg_n0 (Nat.lt_of_le_of_lt (Nat.div_le_self _ _) hm)).mpr ?_) (by rw [← hr3]; exact c58)
          rw [e10]; exact Nat.div_eq_of_lt (by omega)
  exact L27 10 v 0 (by rw [dgR_0]; exact hv) (by rw [Nat.pow_zero, Nat.div_one, Nat.zero_add]) (by omega) (by omega) H locs ls h (lv_sub hl [3, 4, 5, 2, 1, 0] rfl)

def cmpR (rel : Int32) (a b : Int64) : Bool := if rel = nI 60 then decide (a < b) else if rel = nI 62 then decide (b < a) else decide (a = b)
/-- one step of a form: the next place, and the writer's state -/
def stepS (D F S : Nat → Int32) (nm : Int32 → Int32 → Int32) (n : Nat) (wn i : Int32) (w : WS) : Int32 × WS :=
  if xget 160 D i = nI 0 then (i + nI 1, w.1, w.2.1, w.2.2.1, w.2.2.2.1, wPut wn w.2.2.2.2 (chr (xget 160 F i)))
  else if xget 160 D i = nI 1 then (i + nI 1, dgR w.1 (nm (chr (xget 160 F i)) w.2.1).toNatClampNeg (dsz 9 (nm (chr (xget 160 F i)) w.2.1).toNatClampNeg), w.2.1, w.2.2.1, w.2.2.2.1, wPuts wn w.2.2.2.2 (numT (nm (chr (xget 160 F i)) w.2.1).toNatClampNeg (xget 160 S i).toNatClampNeg))
  else if xget 160 D i = nI 2 then (i + nI 1, w.1, w.2.1, w.2.2.1, w.2.2.2.1 + (if xget 160 F i = 0 then (xget 160 S i).toInt64 else (nm (chr (xget 160 F i)) w.2.1).toInt64), w.2.2.2.2)
  else if xget 160 D i = nI 3 then (i + nI 1, w.1, w.2.1, w.2.2.1, w.2.2.2.1 - (if xget 160 F i = 0 then (xget 160 S i).toInt64 else (nm (chr (xget 160 F i)) w.2.1).toInt64), w.2.2.2.2)
  else if xget 160 D i = nI 4 then (i + nI 1, w.1, w.2.1, w.2.2.2.1, 0, w.2.2.2.2)
  else if xget 160 D i = nI 5 then (if cmpR (chr (xget 160 F i)) w.2.2.1 w.2.2.2.1 then i + nI 1 else xget 160 S i, w.1, w.2.1, w.2.2.1, 0, w.2.2.2.2)
  else if xget 160 D i = nI 6 then (xget 160 S i, w)
  else if xget 160 D i = nI 7 then (i + nI 1, w.1, nI 0, w.2.2.1, w.2.2.2.1, w.2.2.2.2)
  else if ¬ w.2.1 + nI 1 < 0 ∧ w.2.1 + nI 1 < nI n then (xget 160 S i, w.1, w.2.1 + nI 1, w.2.2.1, w.2.2.2.1, w.2.2.2.2)
  else (i + nI 1, w.1, -1, w.2.2.1, w.2.2.2.1, w.2.2.2.2)
/-- the steps, as long as there is one -/
def runS (D F S : Nat → Int32) (nm : Int32 → Int32 → Int32) (n : Nat) (wn z : Int32) : Nat → Int32 × WS → WS
  | 0, x => x.2
  | k + 1, x => if x.1 < z then runS D F S nm n wn z k (stepS D F S nm n wn x.1 x.2) else x.2
theorem numS_wr (st : XS) (w : WS) (b n : Nat) (name idx : Int32) : numS (wrS st w) b n name idx = numS st b n name idx := by
  obtain ⟨dg, ln, lf, sm, c, kp⟩ := w
  have h1 : ∀ f, gi (wrS st (dg, ln, lf, sm, c, kp)) f (100 + 6 * b) = gi st f (100 + 6 * b) := fun f => wr_o _ _ _ _ _ _ _ (Or.inl (by omega))
  have h2 : ∀ j, ga (wrS st (dg, ln, lf, sm, c, kp)) (100 + 6 * b + j) = ga st (100 + 6 * b + j) := fun j => wr_ga _ _ _ _ _ _ _ (by omega)
  have e1 : bK (wrS st (dg, ln, lf, sm, c, kp)) b = bK st b := h2 1
  have e2 : bQ (wrS st (dg, ln, lf, sm, c, kp)) b = bQ st b := h2 2
  have e3 : bP (wrS st (dg, ln, lf, sm, c, kp)) b = bP st b := h2 3
  unfold numS
  simp only [h1, h2, e1, e2, e3]

set_option maxHeartbeats 4000000 in
set_option maxRecDepth 100000 in
theorem c_X6_compareSums (l : Launch) (D : va_G) (cy : Nat → ClassId) (ad : Nat → Nat) (Ls : List Nat) (st : XS) (hL : ∀ k, xC k = true → k ∈ Ls) (wn : Int32) (hwn : gi st 2 3 = wn) (dg : Nat → Int32) (ln : Int32) (lf sm : Int64) (c9 kp : Int32) (rel : Int32) : xMi l yX6_compareSums cX6_compareSums 4 (some .boolean) 0 D cy ad Ls (wrS st (dg, ln, lf, sm, c9, kp)) [.ref (ad 3), .int rel] (fun r u => r = bi (cmpR rel lf sm) ∧ u = wrS st (dg, ln, lf, 0, c9, kp)) := by
  intro sz
  refine x_of sz (by decide +kernel) (Nat.le_of_ble_eq_true rfl) ?_
  intro p e s m args below meth c ls hx hb hr hlocks C hsz h hl
  have hl : lv_has ls 4 [(0, .ref (ad 3)), (1, .int rel)] := hl
  obtain ⟨H, eH⟩ : ∃ z, z = s.heap := ⟨_, rfl⟩
  obtain ⟨locs, eL⟩ : ∃ z : List Loc, z = [] := ⟨_, rfl⟩
  rw [← eH, ← eL] at h
  rw [← eH, ← eL]
  clear eH eL
  obtain ⟨v, hv⟩ : ∃ v, v = wrS st (dg, ln, lf, sm, c9, kp) := ⟨_, rfl⟩
  rw [← hv] at h
  refine lv_aload_n hx hb dX6_compareSums_0 rfl (lv_at hl 0 rfl) ?_
  refine gf_X6_33 C h (hL 3 rfl) rfl dX6_compareSums_1 ?_
  refine x_topl (y := sm) (by rw [hv]; exact wr_sm ..) ?_
  refine lv_lstore_n (lv' := [(2, .long sm), (0, .ref (ad 3)), (1, .int rel)]) hx hb dX6_compareSums_4 rfl hl (by decide) rfl (fun ls hl => ?_)
  refine lv_aload_n hx hb dX6_compareSums_5 rfl (lv_at hl 1 rfl) ?_
  refine lv_lconst (v := 0) hx hb dX6_compareSums_6 (by decide) ?_
  refine pf_X6_33 C h (hL 3 rfl) rfl dX6_compareSums_7 (fun H locs u1 eu1 h => ?_)
  rw [hv, w_sm] at eu1
  refine lv_iload_n hx hb dX6_compareSums_10 rfl (lv_at hl 2 rfl) ?_
  by_cases g11_60 : rel = nI 60
  · refine x_topi g11_60 ?_
    refine lv_lookup (tgt := 36) (off := 25) hx hb dX6_compareSums_11 (by decide) (by decide) (by decide) ?_
    refine lv_aload_n hx hb dX6_compareSums_36 rfl (lv_at hl 1 rfl) ?_
    refine gf_X6_29 C h (hL 3 rfl) rfl dX6_compareSums_37 ?_
    refine x_topl (y := lf) (by rw [eu1]; exact wr_lf ..) ?_
    refine lv_lload_n hx hb dX6_compareSums_40 rfl (lv_at hl 0 rfl) ?_
    refine x_lcmp hx hb dX6_compareSums_41 (fun r2 hr2 => ?_)
    refine lv_if_ge (tgt := 49) hx hb dX6_compareSums_42 (by decide) (fun c42 => ?_) (fun c42 => ?_)
    · refine lv_iconst (v := nI 0) hx hb dX6_compareSums_49 (by decide) ?_
      exact x_zret C hr hlocks (by first | rfl | exact bi_zn _ | decide) h ⟨by rw [cmpR, if_pos g11_60]; rw [decide_eq_false (lg_lt.mp (by rw [← hr2]; exact c42))]; rfl, eu1⟩ dX6_compareSums_50
    · refine lv_iconst (v := nI 1) hx hb dX6_compareSums_45 (by decide) ?_
      refine lv_goto (tgt := 50) hx hb dX6_compareSums_46 (by decide) ?_
      exact x_zret C hr hlocks (by first | rfl | exact bi_zn _ | decide) h ⟨by rw [cmpR, if_pos g11_60]; rw [decide_eq_true (Decidable.not_not.mp (fun q => c42 (by rw [hr2]; exact lg_lt.mpr q)))]; rfl, eu1⟩ dX6_compareSums_50
  by_cases g11_62 : rel = nI 62
  · refine x_topi g11_62 ?_
    refine lv_lookup (tgt := 51) (off := 40) hx hb dX6_compareSums_11 (by decide) (by decide) (by decide) ?_
    refine lv_aload_n hx hb dX6_compareSums_51 rfl (lv_at hl 1 rfl) ?_
    refine gf_X6_29 C h (hL 3 rfl) rfl dX6_compareSums_52 ?_
    refine x_topl (y := lf) (by rw [eu1]; exact wr_lf ..) ?_
    refine lv_lload_n hx hb dX6_compareSums_55 rfl (lv_at hl 0 rfl) ?_
    refine x_lcmp hx hb dX6_compareSums_56 (fun r3 hr3 => ?_)
    refine lv_if_le (tgt := 64) hx hb dX6_compareSums_57 (by decide) (fun c57 => ?_) (fun c57 => ?_)
    · refine lv_iconst (v := nI 0) hx hb dX6_compareSums_64 (by decide) ?_
      exact x_zret C hr hlocks (by first | rfl | exact bi_zn _ | decide) h ⟨by rw [cmpR, if_neg (by rw [g11_62]; decide), if_pos g11_62]; rw [decide_eq_false (lg_gt.mp (by rw [← hr3]; exact c57))]; rfl, eu1⟩ dX6_compareSums_65
    · refine lv_iconst (v := nI 1) hx hb dX6_compareSums_60 (by decide) ?_
      refine lv_goto (tgt := 65) hx hb dX6_compareSums_61 (by decide) ?_
      exact x_zret C hr hlocks (by first | rfl | exact bi_zn _ | decide) h ⟨by rw [cmpR, if_neg (by rw [g11_62]; decide), if_pos g11_62]; rw [decide_eq_true (Decidable.not_not.mp (fun q => c57 (by rw [hr3]; exact lg_gt.mpr q)))]; rfl, eu1⟩ dX6_compareSums_65
  refine lv_lookup (tgt := 66) (off := 55) hx hb dX6_compareSums_11 (by decide) (by show Op.lookupswitch.offset [(60, 25), (62, 40)] 55 _ = 55; rw [lv_osw g11_60 (by decide), lv_osw g11_62 (by decide)]; rfl) (by decide) ?_
  refine lv_aload_n hx hb dX6_compareSums_66 rfl (lv_at hl 1 rfl) ?_
  refine gf_X6_29 C h (hL 3 rfl) rfl dX6_compareSums_67 ?_
  refine x_topl (y := lf) (by rw [eu1]; exact wr_lf ..) ?_
  refine lv_lload_n hx hb dX6_compareSums_70 rfl (lv_at hl 0 rfl) ?_
  refine x_lcmp hx hb dX6_compareSums_71 (fun r4 hr4 => ?_)
  refine lv_if_ne (tgt := 79) hx hb dX6_compareSums_72 (by decide) (fun c72 => ?_) (fun c72 => ?_)
  · refine lv_iconst (v := nI 0) hx hb dX6_compareSums_79 (by decide) ?_
    exact x_zret C hr hlocks (by first | rfl | exact bi_zn _ | decide) h ⟨by rw [cmpR, if_neg g11_60, if_neg g11_62]; rw [decide_eq_false (fun q => c72 (by rw [hr4]; exact lg_cmp_0.mpr q))]; rfl, eu1⟩ dX6_compareSums_80
  · refine lv_iconst (v := nI 1) hx hb dX6_compareSums_75 (by decide) ?_
    refine lv_goto (tgt := 80) hx hb dX6_compareSums_76 (by decide) ?_
    exact x_zret C hr hlocks (by first | rfl | exact bi_zn _ | decide) h ⟨by rw [cmpR, if_neg g11_60, if_neg g11_62]; rw [decide_eq_true (lg_cmp_0.mp (by rw [← hr4]; exact c72))]; rfl, eu1⟩ dX6_compareSums_80

set_option maxHeartbeats 4000000 in
set_option maxRecDepth 100000 in
theorem c_X6_nextLine (l : Launch) (D : va_G) (cy : Nat → ClassId) (ad : Nat → Nat) (Ls : List Nat) (st : XS) (hL : ∀ k, xC k = true → k ∈ Ls) (wn : Int32) (hwn : gi st 2 3 = wn) (dg : Nat → Int32) (ln : Int32) (lf sm : Int64) (c9 kp : Int32) {b : Nat} (hb33 : b < 33) (hB : ∀ j, j < 6 → 100 + 6 * b + j ∈ Ls) (n : Nat) (hn : n ≤ 6) (hc : gi st 3 (100 + 6 * b) = nI n) : xMi l yX6_nextLine cX6_nextLine 3 (some .boolean) 1 D cy ad Ls (wrS st (dg, ln, lf, sm, c9, kp)) [.ref (ad 3), .ref (ad (100 + 6 * b))] (fun r u => r = bi (decide (¬ ln + nI 1 < 0 ∧ ln + nI 1 < nI n)) ∧ u = wrS st (dg, if ¬ ln + nI 1 < 0 ∧ ln + nI 1 < nI n then ln + nI 1 else -1, lf, sm, c9, kp)) := by
  intro sz
  refine x_of sz (by decide +kernel) (Nat.le_of_ble_eq_true rfl) ?_
  intro p e s m args below meth c ls hx hb hr hlocks C hsz h hl
  have hl : lv_has ls 3 [(0, .ref (ad 3)), (1, .ref (ad (100 + 6 * b)))] := hl
  obtain ⟨H, eH⟩ : ∃ z, z = s.heap := ⟨_, rfl⟩
  obtain ⟨locs, eL⟩ : ∃ z : List Loc, z = [] := ⟨_, rfl⟩
  rw [← eH, ← eL] at h
  rw [← eH, ← eL]
  clear eH eL
  obtain ⟨v, hv⟩ : ∃ v, v = wrS st (dg, ln, lf, sm, c9, kp) := ⟨_, rfl⟩
  rw [← hv] at h
  refine lv_aload_n hx hb dX6_nextLine_0 rfl (lv_at hl 0 rfl) ?_
  refine lv_dup hx hb dX6_nextLine_1 rfl ?_
  refine gf_X6_26 C h (hL 3 rfl) rfl dX6_nextLine_2 ?_
  refine x_topi (y := ln) (by rw [hv]; exact wr_l ..) ?_
  refine lv_iconst (v := nI 1) hx hb dX6_nextLine_5 (by decide) ?_
  refine lv_iadd hx hb dX6_nextLine_6 ?_
  refine pf_X6_26 C h (hL 3 rfl) rfl dX6_nextLine_7 (fun H locs u1 eu1 h => ?_)
  rw [hv, w_l] at eu1
  refine lv_aload_n hx hb dX6_nextLine_10 rfl (lv_at hl 1 rfl) ?_
  refine lv_aload_n hx hb dX6_nextLine_11 rfl (lv_at hl 0 rfl) ?_
  refine gf_X6_26 C h (hL 3 rfl) rfl dX6_nextLine_12 ?_
  refine x_topi (y := ln + (nI 1)) (by rw [eu1]; exact wr_l ..) ?_
  refine cl_X6_81 C h (show 100 + 6 * b ∈ Ls from hB 0 (by decide)) (kd_b0 hb33) (c_X0_hasLine l D cy ad Ls u1 hb33 hB n hn (by rw [eu1, wr_o _ _ _ _ _ _ _ (Or.inl (by omega))]; exact hc) (ln + (nI 1))) (x_room (by omega)) ⟨Nat.zero_le _, Nat.zero_le _⟩ hl.1 (Nat.le_of_ble_eq_true rfl) dX6_nextLine_15 (fun r3 u2 H locs hp h => ?_)
  obtain ⟨er3, eu2⟩ := hp; rw [eu2] at h; clear eu2 u2; refine x_topi er3 ?_; clear er3 r3
  refine lv_istore_n (lv' := [(2, .int (bi (decide (¬ (ln + (nI 1)) < 0 ∧ (ln + (nI 1)) < nI n)))), (0, .ref (ad 3)), (1, .ref (ad (100 + 6 * b)))]) hx hb dX6_nextLine_18 rfl hl (by decide) rfl (fun ls hl => ?_)
  refine lv_iload_n hx hb dX6_nextLine_19 rfl (lv_at hl 0 rfl) ?_
  refine x_ifb_ne (tgt := 28) hx hb dX6_nextLine_20 (by decide) (fun c20 => ?_) (fun c20 => ?_)
  · refine lv_iload_n hx hb dX6_nextLine_28 rfl (lv_at hl 0 rfl) ?_
    exact x_zret C hr hlocks (by first | rfl | exact bi_zn _ | decide) h ⟨rfl, by rw [if_pos (of_decide_eq_true c20)]; exact eu1⟩ dX6_nextLine_29
  · refine lv_aload_n hx hb dX6_nextLine_23 rfl (lv_at hl 1 rfl) ?_
    refine lv_iconst (v := (-1)) hx hb dX6_nextLine_24 (by decide) ?_
    refine pf_X6_26 C h (hL 3 rfl) rfl dX6_nextLine_25 (fun H locs u4 eu4 h => ?_)
    rw [eu1, w_l] at eu4
    refine lv_iload_n hx hb dX6_nextLine_28 rfl (lv_at hl 0 rfl) ?_
    exact x_zret C hr hlocks (by first | rfl | exact bi_zn _ | decide) h ⟨rfl, by rw [if_neg (of_decide_eq_false c20)]; exact eu4⟩ dX6_nextLine_29

theorem nI_cl31 (x : Int32) : x.toNatClampNeg < 2 ^ 31 := by have := x.toInt_lt; show x.toInt.toNat < _; omega

set_option maxHeartbeats 4000000 in
set_option maxRecDepth 100000 in
theorem c_X6_step (l : Launch) (D : va_G) (cy : Nat → ClassId) (ad : Nat → Nat) (Ls : List Nat) (st : XS) (hL : ∀ k, xC k = true → k ∈ Ls) (wn : Int32) (hwn : gi st 2 3 = wn) (dg : Nat → Int32) (ln : Int32) (lf sm : Int64) (c9 kp : Int32) {b : Nat} (hb33 : b < 33) (hB : ∀ j, j < 6 → 100 + 6 * b + j ∈ Ls) (n : Nat) (hn : n ≤ 6) (hc : gi st 3 (100 + 6 * b) = nI n) (hNm : ∀ name, numS st b n name ln = nI (numS st b n name ln).toNatClampNeg) {g : Nat} (hg40 : g < 40) (hG : ∀ j, j < 4 → 300 + 4 * g + j ∈ Ls) (i9 : Int32) : xMi l yX6_step cX6_step 6 (some .int) 6 D cy ad Ls (wrS st (dg, ln, lf, sm, c9, kp)) [.ref (ad 3), .ref (ad (100 + 6 * b)), .ref (ad (300 + 4 * g)), .int i9] (fun r u => r = (stepS (ga st (300 + 4 * g + 1)) (ga st (300 + 4 * g + 2)) (ga st (300 + 4 * g + 3)) (numS st b n) n wn i9 (dg, ln, lf, sm, c9, kp)).1 ∧ u = wrS st (stepS (ga st (300 + 4 * g + 1)) (ga st (300 + 4 * g + 2)) (ga st (300 + 4 * g + 3)) (numS st b n) n wn i9 (dg, ln, lf, sm, c9, kp)).2) := by
  intro sz
  refine x_of sz (by decide +kernel) (Nat.le_of_ble_eq_true rfl) ?_
  intro p e s m args below meth c ls hx hb hr hlocks C hsz h hl
  have hl : lv_has ls 6 [(0, .ref (ad 3)), (1, .ref (ad (100 + 6 * b))), (2, .ref (ad (300 + 4 * g))), (3, .int i9)] := hl
  obtain ⟨H, eH⟩ : ∃ z, z = s.heap := ⟨_, rfl⟩
  obtain ⟨locs, eL⟩ : ∃ z : List Loc, z = [] := ⟨_, rfl⟩
  rw [← eH, ← eL] at h
  rw [← eH, ← eL]
  clear eH eL
  obtain ⟨v, hv⟩ : ∃ v, v = wrS st (dg, ln, lf, sm, c9, kp) := ⟨_, rfl⟩
  rw [← hv] at h
  refine lv_aload_n hx hb dX6_step_0 rfl (lv_at hl 2 rfl) ?_
  refine gf_X6_46 C h (show 300 + 4 * g ∈ Ls from hG 0 (by decide)) (kd_f0 hg40) (k2 := (300 + 4 * g + 2)) rfl dX6_step_1 ?_
  refine lv_iload_n hx hb dX6_step_4 rfl (lv_at hl 3 rfl) ?_
  refine cl_X6_49 C h (c_X7_get l D cy ad Ls v (hG 2 (by decide)) (n := 160) (kd_f2 hg40) (by decide) i9) (x_room (by omega)) ⟨Nat.zero_le _, Nat.zero_le _⟩ hl.1 (Nat.le_of_ble_eq_true rfl) dX6_step_5 (fun r2 u1 H locs hp h => ?_)
  obtain ⟨er2, eu1⟩ := hp; rw [eu1] at h; clear eu1 u1; refine x_topi er2 ?_; clear er2 r2
  refine x_topi (y := xget 160 (ga st (300 + 4 * g + 2)) i9) (by rw [hv, wr_ga _ _ _ _ _ _ _ (by omega)]) ?_
  refine lv_istore (lv' := [(4, .int (xget 160 (ga st (300 + 4 * g + 2)) i9)), (0, .ref (ad 3)), (1, .ref (ad (100 + 6 * b))), (2, .ref (ad (300 + 4 * g))), (3, .int i9)]) hx hb dX6_step_8 hl (by decide) rfl (fun ls hl => ?_)
  refine lv_aload_n hx hb dX6_step_10 rfl (lv_at hl 3 rfl) ?_
  refine gf_X6_53 C h (show 300 + 4 * g ∈ Ls from hG 0 (by decide)) (kd_f0 hg40) (k2 := (300 + 4 * g + 3)) rfl dX6_step_11 ?_
  refine lv_iload_n hx hb dX6_step_14 rfl (lv_at hl 4 rfl) ?_
  refine cl_X6_49 C h (c_X7_get l D cy ad Ls v (hG 3 (by decide)) (n := 160) (kd_f3 hg40) (by decide) i9) (x_room (by omega)) ⟨Nat.zero_le _, Nat.zero_le _⟩ hl.1 (Nat.le_of_ble_eq_true rfl) dX6_step_15 (fun r4 u3 H locs hp h => ?_)
  obtain ⟨er4, eu3⟩ := hp; rw [eu3] at h; clear eu3 u3; refine x_topi er4 ?_; clear er4 r4
  refine x_topi (y := xget 160 (ga st (300 + 4 * g + 3)) i9) (by rw [hv, wr_ga _ _ _ _ _ _ _ (by omega)]) ?_
  refine lv_istore (lv' := [(5, .int (xget 160 (ga st (300 + 4 * g + 3)) i9)), (4, .int (xget 160 (ga st (300 + 4 * g + 2)) i9)), (0, .ref (ad 3)), (1, .ref (ad (100 + 6 * b))), (2, .ref (ad (300 + 4 * g))), (3, .int i9)]) hx hb dX6_step_18 hl (by decide) rfl (fun ls hl => ?_)
  refine lv_aload_n hx hb dX6_step_20 rfl (lv_at hl 4 rfl) ?_
  refine gf_X6_56 C h (show 300 + 4 * g ∈ Ls from hG 0 (by decide)) (kd_f0 hg40) (k2 := (300 + 4 * g + 1)) rfl dX6_step_21 ?_
  refine lv_iload_n hx hb dX6_step_24 rfl (lv_at hl 5 rfl) ?_
  refine cl_X6_49 C h (c_X7_get l D cy ad Ls v (hG 1 (by decide)) (n := 160) (kd_f1 hg40) (by decide) i9) (x_room (by omega)) ⟨Nat.zero_le _, Nat.zero_le _⟩ hl.1 (Nat.le_of_ble_eq_true rfl) dX6_step_25 (fun r6 u5 H locs hp h => ?_)
  obtain ⟨er6, eu5⟩ := hp; rw [eu5] at h; clear eu5 u5; refine x_topi er6 ?_; clear er6 r6
  refine x_topi (y := xget 160 (ga st (300 + 4 * g + 1)) i9) (by rw [hv, wr_ga _ _ _ _ _ _ _ (by omega)]) ?_
  by_cases g28_0 : xget 160 (ga st (300 + 4 * g + 1)) i9 = nI 0
  · refine x_topi g28_0 ?_
    refine lv_tableIn (tgt := 76) (off := 48) hx hb dX6_step_28 (by decide) (by decide) (by decide) (by decide) ?_
    refine lv_aload_n hx hb dX6_step_76 rfl (lv_at hl 2 rfl) ?_
    refine lv_iload hx hb dX6_step_77 (lv_at hl 1 rfl) ?_
    refine lv_i2c hx hb dX6_step_79 rfl ?_
    rw [hv] at h
    refine cl_X6_59 C h (hL 3 rfl) rfl (c_X6_put l D cy ad Ls st hL wn hwn dg ln lf sm c9 kp (((xget 160 (ga st (300 + 4 * g + 2)) i9).toUInt32 % 65536).toInt32) (chr_ok _)) (x_room (by omega)) ⟨Nat.zero_le _, Nat.zero_le _⟩ hl.1 (Nat.le_of_ble_eq_true rfl) dX6_step_80 (fun u7 H locs hp h => ?_)
    obtain ⟨y9, ey9⟩ : ∃ y, y = wPut wn (c9, kp) (((xget 160 (ga st (300 + 4 * g + 2)) i9).toUInt32 % 65536).toInt32) := ⟨_, rfl⟩
    rw [← ey9] at hp
    have Eu7 : u7 = wrS st (dg, ln, lf, sm, y9.1, y9.2) := hp; clear hp
    refine lv_iload_n hx hb dX6_step_83 rfl (lv_at hl 5 rfl) ?_
    refine lv_iconst (v := nI 1) hx hb dX6_step_84 (by decide) ?_
    refine lv_iadd hx hb dX6_step_85 ?_
    have hF : stepS (ga st (300 + 4 * g + 1)) (ga st (300 + 4 * g + 2)) (ga st (300 + 4 * g + 3)) (numS st b n) n wn i9 (dg, ln, lf, sm, c9, kp) = (i9 + (nI 1), (dg, ln, lf, sm, y9.1, y9.2)) := by unfold stepS; rw [if_pos g28_0, ← ey9]
    exact x_iret C hr hlocks h ⟨by rw [hF], by rw [hF]; exact Eu7⟩ dX6_step_86
  by_cases g28_1 : xget 160 (ga st (300 + 4 * g + 1)) i9 = nI 1
  · refine x_topi g28_1 ?_
    refine lv_tableIn (tgt := 87) (off := 59) hx hb dX6_step_28 (by decide) (by decide) (by decide) (by decide) ?_
    refine lv_aload_n hx hb dX6_step_87 rfl (lv_at hl 2 rfl) ?_
    refine lv_aload_n hx hb dX6_step_88 rfl (lv_at hl 3 rfl) ?_
    refine lv_iload hx hb dX6_step_89 (lv_at hl 1 rfl) ?_
    refine lv_i2c hx hb dX6_step_91 rfl ?_
    refine lv_aload_n hx hb dX6_step_92 rfl (lv_at hl 2 rfl) ?_
    refine gf_X6_26 C h (hL 3 rfl) rfl dX6_step_93 ?_
    refine x_topi (y := ln) (by rw [hv]; exact wr_l ..) ?_
    refine cl_X6_63 C h (show 100 + 6 * b ∈ Ls from hB 0 (by decide)) (kd_b0 hb33) (c_X0_numberNamed l D cy ad Ls v hb33 hB n hn (by rw [hv, wr_o _ _ _ _ _ _ _ (Or.inl (by omega))]; exact hc) (((xget 160 (ga st (300 + 4 * g + 2)) i9).toUInt32 % 65536).toInt32) ln) (x_room (by omega)) ⟨Nat.zero_le _, Nat.zero_le _⟩ hl.1 (Nat.le_of_ble_eq_true rfl) dX6_step_96 (fun r11 u10 H locs hp h => ?_)
    obtain ⟨er11, eu10⟩ := hp; rw [eu10] at h; clear eu10 u10; refine x_topi er11 ?_; clear er11 r11
    refine x_topi (y := numS st b n (((xget 160 (ga st (300 + 4 * g + 2)) i9).toUInt32 % 65536).toInt32) ln) (by rw [hv, numS_wr]) ?_
    refine lv_iload hx hb dX6_step_99 (lv_at hl 0 rfl) ?_
    rw [show numS st b n (chr (xget 160 (ga st (300 + 4 * g + 2)) i9)) ln = nI (numS st b n (chr (xget 160 (ga st (300 + 4 * g + 2)) i9)) ln).toNatClampNeg from hNm _]
    rw [hv] at h
    refine cl_X6_69 C h (hL 3 rfl) rfl (c_X6_putNumber l D cy ad Ls st hL wn hwn dg ln lf sm c9 kp ((numS st b n (((xget 160 (ga st (300 + 4 * g + 2)) i9).toUInt32 % 65536).toInt32) ln)).toNatClampNeg (nI_cl31 _) (xget 160 (ga st (300 + 4 * g + 3)) i9)) (x_room (by omega)) ⟨Nat.zero_le _, Nat.zero_le _⟩ hl.1 (Nat.le_of_ble_eq_true rfl) dX6_step_101 (fun u12 H locs hp h => ?_)
    obtain ⟨y14, ey14⟩ : ∃ y, y = wPuts wn (c9, kp) (numT ((numS st b n (((xget 160 (ga st (300 + 4 * g + 2)) i9).toUInt32 % 65536).toInt32) ln)).toNatClampNeg ((xget 160 (ga st (300 + 4 * g + 3)) i9)).toNatClampNeg) := ⟨_, rfl⟩
    rw [← ey14] at hp
    have Eu12 := hp; clear hp
    refine lv_iload_n hx hb dX6_step_104 rfl (lv_at hl 5 rfl) ?_
    refine lv_iconst (v := nI 1) hx hb dX6_step_105 (by decide) ?_
    refine lv_iadd hx hb dX6_step_106 ?_
    have hF : stepS (ga st (300 + 4 * g + 1)) (ga st (300 + 4 * g + 2)) (ga st (300 + 4 * g + 3)) (numS st b n) n wn i9 (dg, ln, lf, sm, c9, kp) = (i9 + (nI 1), ((dgR dg ((numS st b n (((xget 160 (ga st (300 + 4 * g + 2)) i9).toUInt32 % 65536).toInt32) ln)).toNatClampNeg (dsz 9 ((numS st b n (((xget 160 (ga st (300 + 4 * g + 2)) i9).toUInt32 % 65536).toInt32) ln)).toNatClampNeg)), ln, lf, sm, y14.1, y14.2)) := by unfold stepS; rw [if_neg (show ¬ xget 160 (ga st (300 + 4 * g + 1)) i9 = nI 0 by rw [g28_1]; decide), if_pos g28_1, ← ey14]
    exact x_iret C hr hlocks h ⟨by rw [hF], by rw [hF]; exact Eu12⟩ dX6_step_107
  by_cases g28_2 : xget 160 (ga st (300 + 4 * g + 1)) i9 = nI 2
  · refine x_topi g28_2 ?_
    refine lv_tableIn (tgt := 108) (off := 80) hx hb dX6_step_28 (by decide) (by decide) (by decide) (by decide) ?_
    refine lv_aload_n hx hb dX6_step_108 rfl (lv_at hl 2 rfl) ?_
    refine lv_dup hx hb dX6_step_109 rfl ?_
    refine gf_X6_33 C h (hL 3 rfl) rfl dX6_step_110 ?_
    refine x_topl (y := sm) (by rw [hv]; exact wr_sm ..) ?_
    refine lv_iload hx hb dX6_step_113 (lv_at hl 1 rfl) ?_
    refine lv_if_ne (tgt := 124) hx hb dX6_step_115 (by decide) (fun c115 => ?_) (fun c115 => ?_)
    · refine lv_aload_n hx hb dX6_step_124 rfl (lv_at hl 3 rfl) ?_
      refine lv_iload hx hb dX6_step_125 (lv_at hl 1 rfl) ?_
      refine lv_i2c hx hb dX6_step_127 rfl ?_
      refine lv_aload_n hx hb dX6_step_128 rfl (lv_at hl 2 rfl) ?_
      refine gf_X6_26 C h (hL 3 rfl) rfl dX6_step_129 ?_
      refine x_topi (y := ln) (by rw [hv]; exact wr_l ..) ?_
      refine cl_X6_63 C h (show 100 + 6 * b ∈ Ls from hB 0 (by decide)) (kd_b0 hb33) (c_X0_numberNamed l D cy ad Ls v hb33 hB n hn (by rw [hv, wr_o _ _ _ _ _ _ _ (Or.inl (by omega))]; exact hc) (((xget 160 (ga st (300 + 4 * g + 2)) i9).toUInt32 % 65536).toInt32) ln) (x_room (by omega)) ⟨Nat.zero_le _, Nat.zero_le _⟩ hl.1 (Nat.le_of_ble_eq_true rfl) dX6_step_132 (fun r16 u15 H locs hp h => ?_)
      obtain ⟨er16, eu15⟩ := hp; rw [eu15] at h; clear eu15 u15; refine x_topi er16 ?_; clear er16 r16
      refine x_topi (y := numS st b n (((xget 160 (ga st (300 + 4 * g + 2)) i9).toUInt32 % 65536).toInt32) ln) (by rw [hv, numS_wr]) ?_
      refine lv_i2l hx hb dX6_step_135 rfl ?_
      refine lv_ladd hx hb dX6_step_136 ?_
      refine pf_X6_33 C h (hL 3 rfl) rfl dX6_step_137 (fun H locs u17 eu17 h => ?_)
      rw [hv, w_sm] at eu17
      refine lv_iload_n hx hb dX6_step_140 rfl (lv_at hl 5 rfl) ?_
      refine lv_iconst (v := nI 1) hx hb dX6_step_141 (by decide) ?_
      refine lv_iadd hx hb dX6_step_142 ?_
      have hF : stepS (ga st (300 + 4 * g + 1)) (ga st (300 + 4 * g + 2)) (ga st (300 + 4 * g + 3)) (numS st b n) n wn i9 (dg, ln, lf, sm, c9, kp) = (i9 + (nI 1), (dg, ln, lf, sm + ((numS st b n (((xget 160 (ga st (300 + 4 * g + 2)) i9).toUInt32 % 65536).toInt32) ln).toInt64), c9, kp)) := by unfold stepS; rw [if_neg (show ¬ xget 160 (ga st (300 + 4 * g + 1)) i9 = nI 0 by rw [g28_2]; decide), if_neg (show ¬ xget 160 (ga st (300 + 4 * g + 1)) i9 = nI 1 by rw [g28_2]; decide), if_pos g28_2, if_neg c115]
      exact x_iret C hr hlocks h ⟨by rw [hF], by rw [hF]; exact eu17⟩ dX6_step_143
    · refine lv_iload hx hb dX6_step_118 (lv_at hl 0 rfl) ?_
      refine lv_i2l hx hb dX6_step_120 rfl ?_
      refine lv_goto (tgt := 136) hx hb dX6_step_121 (by decide) ?_
      refine lv_ladd hx hb dX6_step_136 ?_
      refine pf_X6_33 C h (hL 3 rfl) rfl dX6_step_137 (fun H locs u18 eu18 h => ?_)
      rw [hv, w_sm] at eu18
      refine lv_iload_n hx hb dX6_step_140 rfl (lv_at hl 5 rfl) ?_
      refine lv_iconst (v := nI 1) hx hb dX6_step_141 (by decide) ?_
      refine lv_iadd hx hb dX6_step_142 ?_
      have hF : stepS (ga st (300 + 4 * g + 1)) (ga st (300 + 4 * g + 2)) (ga st (300 + 4 * g + 3)) (numS st b n) n wn i9 (dg, ln, lf, sm, c9, kp) = (i9 + (nI 1), (dg, ln, lf, sm + ((xget 160 (ga st (300 + 4 * g + 3)) i9).toInt64), c9, kp)) := by unfold stepS; rw [if_neg (show ¬ xget 160 (ga st (300 + 4 * g + 1)) i9 = nI 0 by rw [g28_2]; decide), if_neg (show ¬ xget 160 (ga st (300 + 4 * g + 1)) i9 = nI 1 by rw [g28_2]; decide), if_pos g28_2, if_pos c115]
      exact x_iret C hr hlocks h ⟨by rw [hF], by rw [hF]; exact eu18⟩ dX6_step_143
  by_cases g28_3 : xget 160 (ga st (300 + 4 * g + 1)) i9 = nI 3
  · refine x_topi g28_3 ?_
    refine lv_tableIn (tgt := 144) (off := 116) hx hb dX6_step_28 (by decide) (by decide) (by decide) (by decide) ?_
    refine lv_aload_n hx hb dX6_step_144 rfl (lv_at hl 2 rfl) ?_
    refine lv_dup hx hb dX6_step_145 rfl ?_
    refine gf_X6_33 C h (hL 3 rfl) rfl dX6_step_146 ?_
    refine x_topl (y := sm) (by rw [hv]; exact wr_sm ..) ?_
    refine lv_iload hx hb dX6_step_149 (lv_at hl 1 rfl) ?_
    refine lv_if_ne (tgt := 160) hx hb dX6_step_151 (by decide) (fun c151 => ?_) (fun c151 => ?_)
    · refine lv_aload_n hx hb dX6_step_160 rfl (lv_at hl 3 rfl) ?_
      refine lv_iload hx hb dX6_step_161 (lv_at hl 1 rfl) ?_
      refine lv_i2c hx hb dX6_step_163 rfl ?_
      refine lv_aload_n hx hb dX6_step_164 rfl (lv_at hl 2 rfl) ?_
      refine gf_X6_26 C h (hL 3 rfl) rfl dX6_step_165 ?_
      refine x_topi (y := ln) (by rw [hv]; exact wr_l ..) ?_
      refine cl_X6_63 C h (show 100 + 6 * b ∈ Ls from hB 0 (by decide)) (kd_b0 hb33) (c_X0_numberNamed l D cy ad Ls v hb33 hB n hn (by rw [hv, wr_o _ _ _ _ _ _ _ (Or.inl (by omega))]; exact hc) (((xget 160 (ga st (300 + 4 * g + 2)) i9).toUInt32 % 65536).toInt32) ln) (x_room (by omega)) ⟨Nat.zero_le _, Nat.zero_le _⟩ hl.1 (Nat.le_of_ble_eq_true rfl) dX6_step_168 (fun r20 u19 H locs hp h => ?_)
      obtain ⟨er20, eu19⟩ := hp; rw [eu19] at h; clear eu19 u19; refine x_topi er20 ?_; clear er20 r20
      refine x_topi (y := numS st b n (((xget 160 (ga st (300 + 4 * g + 2)) i9).toUInt32 % 65536).toInt32) ln) (by rw [hv, numS_wr]) ?_
      refine lv_i2l hx hb dX6_step_171 rfl ?_
      refine lv_lsub hx hb dX6_step_172 ?_
      refine pf_X6_33 C h (hL 3 rfl) rfl dX6_step_173 (fun H locs u21 eu21 h => ?_)
      rw [hv, w_sm] at eu21
      refine lv_iload_n hx hb dX6_step_176 rfl (lv_at hl 5 rfl) ?_
      refine lv_iconst (v := nI 1) hx hb dX6_step_177 (by decide) ?_
      refine lv_iadd hx hb dX6_step_178 ?_
      have hF : stepS (ga st (300 + 4 * g + 1)) (ga st (300 + 4 * g + 2)) (ga st (300 + 4 * g + 3)) (numS st b n) n wn i9 (dg, ln, lf, sm, c9, kp) = (i9 + (nI 1), (dg, ln, lf, sm - ((numS st b n (((xget 160 (ga st (300 + 4 * g + 2)) i9).toUInt32 % 65536).toInt32) ln).toInt64), c9, kp)) := by unfold stepS; rw [if_neg (show ¬ xget 160 (ga st (300 + 4 * g + 1)) i9 = nI 0 by rw [g28_3]; decide), if_neg (show ¬ xget 160 (ga st (300 + 4 * g + 1)) i9 = nI 1 by rw [g28_3]; decide), if_neg (show ¬ xget 160 (ga st (300 + 4 * g + 1)) i9 = nI 2 by rw [g28_3]; decide), if_pos g28_3, if_neg c151]
      exact x_iret C hr hlocks h ⟨by rw [hF], by rw [hF]; exact eu21⟩ dX6_step_179
    · refine lv_iload hx hb dX6_step_154 (lv_at hl 0 rfl) ?_
      refine lv_i2l hx hb dX6_step_156 rfl ?_
      refine lv_goto (tgt := 172) hx hb dX6_step_157 (by decide) ?_
      refine lv_lsub hx hb dX6_step_172 ?_
      refine pf_X6_33 C h (hL 3 rfl) rfl dX6_step_173 (fun H locs u22 eu22 h => ?_)
      rw [hv, w_sm] at eu22
      refine lv_iload_n hx hb dX6_step_176 rfl (lv_at hl 5 rfl) ?_
      refine lv_iconst (v := nI 1) hx hb dX6_step_177 (by decide) ?_
      refine lv_iadd hx hb dX6_step_178 ?_
      have hF : stepS (ga st (300 + 4 * g + 1)) (ga st (300 + 4 * g + 2)) (ga st (300 + 4 * g + 3)) (numS st b n) n wn i9 (dg, ln, lf, sm, c9, kp) = (i9 + (nI 1), (dg, ln, lf, sm - ((xget 160 (ga st (300 + 4 * g + 3)) i9).toInt64), c9, kp)) := by unfold stepS; rw [if_neg (show ¬ xget 160 (ga st (300 + 4 * g + 1)) i9 = nI 0 by rw [g28_3]; decide), if_neg (show ¬ xget 160 (ga st (300 + 4 * g + 1)) i9 = nI 1 by rw [g28_3]; decide), if_neg (show ¬ xget 160 (ga st (300 + 4 * g + 1)) i9 = nI 2 by rw [g28_3]; decide), if_pos g28_3, if_pos c151]
      exact x_iret C hr hlocks h ⟨by rw [hF], by rw [hF]; exact eu22⟩ dX6_step_179
  by_cases g28_4 : xget 160 (ga st (300 + 4 * g + 1)) i9 = nI 4
  · refine x_topi g28_4 ?_
    refine lv_tableIn (tgt := 180) (off := 152) hx hb dX6_step_28 (by decide) (by decide) (by decide) (by decide) ?_
    refine lv_aload_n hx hb dX6_step_180 rfl (lv_at hl 2 rfl) ?_
    refine lv_aload_n hx hb dX6_step_181 rfl (lv_at hl 2 rfl) ?_
    refine gf_X6_33 C h (hL 3 rfl) rfl dX6_step_182 ?_
    refine x_topl (y := sm) (by rw [hv]; exact wr_sm ..) ?_
    refine pf_X6_29 C h (hL 3 rfl) rfl dX6_step_185 (fun H locs u23 eu23 h => ?_)
    rw [hv, w_lf] at eu23
    refine lv_aload_n hx hb dX6_step_188 rfl (lv_at hl 2 rfl) ?_
    refine lv_lconst (v := 0) hx hb dX6_step_189 (by decide) ?_
    refine pf_X6_33 C h (hL 3 rfl) rfl dX6_step_190 (fun H locs u24 eu24 h => ?_)
    rw [eu23, w_sm] at eu24
    refine lv_iload_n hx hb dX6_step_193 rfl (lv_at hl 5 rfl) ?_
    refine lv_iconst (v := nI 1) hx hb dX6_step_194 (by decide) ?_
    refine lv_iadd hx hb dX6_step_195 ?_
    have hF : stepS (ga st (300 + 4 * g + 1)) (ga st (300 + 4 * g + 2)) (ga st (300 + 4 * g + 3)) (numS st b n) n wn i9 (dg, ln, lf, sm, c9, kp) = (i9 + (nI 1), (dg, ln, sm, 0, c9, kp)) := by unfold stepS; rw [if_neg (show ¬ xget 160 (ga st (300 + 4 * g + 1)) i9 = nI 0 by rw [g28_4]; decide), if_neg (show ¬ xget 160 (ga st (300 + 4 * g + 1)) i9 = nI 1 by rw [g28_4]; decide), if_neg (show ¬ xget 160 (ga st (300 + 4 * g + 1)) i9 = nI 2 by rw [g28_4]; decide), if_neg (show ¬ xget 160 (ga st (300 + 4 * g + 1)) i9 = nI 3 by rw [g28_4]; decide), if_pos g28_4]
    exact x_iret C hr hlocks h ⟨by rw [hF], by rw [hF]; exact eu24⟩ dX6_step_196
  by_cases g28_5 : xget 160 (ga st (300 + 4 * g + 1)) i9 = nI 5
  · refine x_topi g28_5 ?_
    refine lv_tableIn (tgt := 197) (off := 169) hx hb dX6_step_28 (by decide) (by decide) (by decide) (by decide) ?_
    refine lv_aload_n hx hb dX6_step_197 rfl (lv_at hl 2 rfl) ?_
    refine lv_iload hx hb dX6_step_198 (lv_at hl 1 rfl) ?_
    refine lv_i2c hx hb dX6_step_200 rfl ?_
    rw [hv] at h
    refine cl_X6_73 C h (hL 3 rfl) rfl (c_X6_compareSums l D cy ad Ls st hL wn hwn dg ln lf sm c9 kp (((xget 160 (ga st (300 + 4 * g + 2)) i9).toUInt32 % 65536).toInt32)) (x_room (by omega)) ⟨Nat.zero_le _, Nat.zero_le _⟩ hl.1 (Nat.le_of_ble_eq_true rfl) dX6_step_201 (fun r26 u25 H locs hp h => ?_)
    obtain ⟨er, Eu25⟩ := hp; refine x_topi er ?_; clear er r26
    refine x_ifb_eq (tgt := 213) hx hb dX6_step_204 (by decide) (fun c204 => ?_) (fun c204 => ?_)
    · refine lv_iload hx hb dX6_step_213 (lv_at hl 0 rfl) ?_
      have hF : stepS (ga st (300 + 4 * g + 1)) (ga st (300 + 4 * g + 2)) (ga st (300 + 4 * g + 3)) (numS st b n) n wn i9 (dg, ln, lf, sm, c9, kp) = (xget 160 (ga st (300 + 4 * g + 3)) i9, (dg, ln, lf, 0, c9, kp)) := by unfold stepS; rw [if_neg (show ¬ xget 160 (ga st (300 + 4 * g + 1)) i9 = nI 0 by rw [g28_5]; decide), if_neg (show ¬ xget 160 (ga st (300 + 4 * g + 1)) i9 = nI 1 by rw [g28_5]; decide), if_neg (show ¬ xget 160 (ga st (300 + 4 * g + 1)) i9 = nI 2 by rw [g28_5]; decide), if_neg (show ¬ xget 160 (ga st (300 + 4 * g + 1)) i9 = nI 3 by rw [g28_5]; decide), if_neg (show ¬ xget 160 (ga st (300 + 4 * g + 1)) i9 = nI 4 by rw [g28_5]; decide), if_pos g28_5, if_neg (by rw [c204]; exact Bool.false_ne_true)]
      exact x_iret C hr hlocks h ⟨by rw [hF], by rw [hF]; exact Eu25⟩ dX6_step_215
    · refine lv_iload_n hx hb dX6_step_207 rfl (lv_at hl 5 rfl) ?_
      refine lv_iconst (v := nI 1) hx hb dX6_step_208 (by decide) ?_
      refine lv_iadd hx hb dX6_step_209 ?_
      refine lv_goto (tgt := 215) hx hb dX6_step_210 (by decide) ?_
      have hF : stepS (ga st (300 + 4 * g + 1)) (ga st (300 + 4 * g + 2)) (ga st (300 + 4 * g + 3)) (numS st b n) n wn i9 (dg, ln, lf, sm, c9, kp) = (i9 + (nI 1), (dg, ln, lf, 0, c9, kp)) := by unfold stepS; rw [if_neg (show ¬ xget 160 (ga st (300 + 4 * g + 1)) i9 = nI 0 by rw [g28_5]; decide), if_neg (show ¬ xget 160 (ga st (300 + 4 * g + 1)) i9 = nI 1 by rw [g28_5]; decide), if_neg (show ¬ xget 160 (ga st (300 + 4 * g + 1)) i9 = nI 2 by rw [g28_5]; decide), if_neg (show ¬ xget 160 (ga st (300 + 4 * g + 1)) i9 = nI 3 by rw [g28_5]; decide), if_neg (show ¬ xget 160 (ga st (300 + 4 * g + 1)) i9 = nI 4 by rw [g28_5]; decide), if_pos g28_5, if_pos c204]
      exact x_iret C hr hlocks h ⟨by rw [hF], by rw [hF]; exact Eu25⟩ dX6_step_215
  by_cases g28_6 : xget 160 (ga st (300 + 4 * g + 1)) i9 = nI 6
  · refine x_topi g28_6 ?_
    refine lv_tableIn (tgt := 216) (off := 188) hx hb dX6_step_28 (by decide) (by decide) (by decide) (by decide) ?_
    refine lv_iload hx hb dX6_step_216 (lv_at hl 0 rfl) ?_
    have hF : stepS (ga st (300 + 4 * g + 1)) (ga st (300 + 4 * g + 2)) (ga st (300 + 4 * g + 3)) (numS st b n) n wn i9 (dg, ln, lf, sm, c9, kp) = (xget 160 (ga st (300 + 4 * g + 3)) i9, (dg, ln, lf, sm, c9, kp)) := by unfold stepS; rw [if_neg (show ¬ xget 160 (ga st (300 + 4 * g + 1)) i9 = nI 0 by rw [g28_6]; decide), if_neg (show ¬ xget 160 (ga st (300 + 4 * g + 1)) i9 = nI 1 by rw [g28_6]; decide), if_neg (show ¬ xget 160 (ga st (300 + 4 * g + 1)) i9 = nI 2 by rw [g28_6]; decide), if_neg (show ¬ xget 160 (ga st (300 + 4 * g + 1)) i9 = nI 3 by rw [g28_6]; decide), if_neg (show ¬ xget 160 (ga st (300 + 4 * g + 1)) i9 = nI 4 by rw [g28_6]; decide), if_neg (show ¬ xget 160 (ga st (300 + 4 * g + 1)) i9 = nI 5 by rw [g28_6]; decide), if_pos g28_6]
    exact x_iret C hr hlocks h ⟨by rw [hF], by rw [hF]; exact hv⟩ dX6_step_218
  by_cases g28_7 : xget 160 (ga st (300 + 4 * g + 1)) i9 = nI 7
  · refine x_topi g28_7 ?_
    refine lv_tableIn (tgt := 219) (off := 191) hx hb dX6_step_28 (by decide) (by decide) (by decide) (by decide) ?_
    refine lv_aload_n hx hb dX6_step_219 rfl (lv_at hl 2 rfl) ?_
    refine lv_iconst (v := nI 0) hx hb dX6_step_220 (by decide) ?_
    refine pf_X6_26 C h (hL 3 rfl) rfl dX6_step_221 (fun H locs u27 eu27 h => ?_)
    rw [hv, w_l] at eu27
    refine lv_iload_n hx hb dX6_step_224 rfl (lv_at hl 5 rfl) ?_
    refine lv_iconst (v := nI 1) hx hb dX6_step_225 (by decide) ?_
    refine lv_iadd hx hb dX6_step_226 ?_
    have hF : stepS (ga st (300 + 4 * g + 1)) (ga st (300 + 4 * g + 2)) (ga st (300 + 4 * g + 3)) (numS st b n) n wn i9 (dg, ln, lf, sm, c9, kp) = (i9 + (nI 1), (dg, nI 0, lf, sm, c9, kp)) := by unfold stepS; rw [if_neg (show ¬ xget 160 (ga st (300 + 4 * g + 1)) i9 = nI 0 by rw [g28_7]; decide), if_neg (show ¬ xget 160 (ga st (300 + 4 * g + 1)) i9 = nI 1 by rw [g28_7]; decide), if_neg (show ¬ xget 160 (ga st (300 + 4 * g + 1)) i9 = nI 2 by rw [g28_7]; decide), if_neg (show ¬ xget 160 (ga st (300 + 4 * g + 1)) i9 = nI 3 by rw [g28_7]; decide), if_neg (show ¬ xget 160 (ga st (300 + 4 * g + 1)) i9 = nI 4 by rw [g28_7]; decide), if_neg (show ¬ xget 160 (ga st (300 + 4 * g + 1)) i9 = nI 5 by rw [g28_7]; decide), if_neg (show ¬ xget 160 (ga st (300 + 4 * g + 1)) i9 = nI 6 by rw [g28_7]; decide), if_pos g28_7]
    exact x_iret C hr hlocks h ⟨by rw [hF], by rw [hF]; exact eu27⟩ dX6_step_227
  refine x_tsw (tgt := 228) hx hb dX6_step_28 (by decide) (by decide) ?_ ?_
  · intro i hi; rcases (show i = 0 ∨ i = 1 ∨ i = 2 ∨ i = 3 ∨ i = 4 ∨ i = 5 ∨ i = 6 ∨ i = 7 by have hi9 : i < 8 := hi; omega) with rfl | rfl | rfl | rfl | rfl | rfl | rfl | rfl
    all_goals first | (intro hne; exact absurd rfl hne) | (intro _ q9; first | exact g28_0 (x_toInt q9 (by decide)) | exact g28_1 (x_toInt q9 (by decide)) | exact g28_2 (x_toInt q9 (by decide)) | exact g28_3 (x_toInt q9 (by decide)) | exact g28_4 (x_toInt q9 (by decide)) | exact g28_5 (x_toInt q9 (by decide)) | exact g28_6 (x_toInt q9 (by decide)) | exact g28_7 (x_toInt q9 (by decide)))
  refine lv_aload_n hx hb dX6_step_228 rfl (lv_at hl 2 rfl) ?_
  refine lv_aload_n hx hb dX6_step_229 rfl (lv_at hl 3 rfl) ?_
  rw [hv] at h
  refine cl_X6_77 C h (hL 3 rfl) rfl (c_X6_nextLine l D cy ad Ls st hL wn hwn dg ln lf sm c9 kp hb33 hB n hn hc) (x_room (by omega)) ⟨Nat.zero_le _, Nat.zero_le _⟩ hl.1 (Nat.le_of_ble_eq_true rfl) dX6_step_230 (fun r29 u28 H locs hp h => ?_)
  obtain ⟨er, Eu28⟩ := hp; refine x_topi er ?_; clear er r29
  refine x_ifb_eq (tgt := 241) hx hb dX6_step_233 (by decide) (fun c233 => ?_) (fun c233 => ?_)
  · refine lv_iload_n hx hb dX6_step_241 rfl (lv_at hl 5 rfl) ?_
    refine lv_iconst (v := nI 1) hx hb dX6_step_242 (by decide) ?_
    refine lv_iadd hx hb dX6_step_243 ?_
    rw [if_neg (of_decide_eq_false c233)] at Eu28
    have hF : stepS (ga st (300 + 4 * g + 1)) (ga st (300 + 4 * g + 2)) (ga st (300 + 4 * g + 3)) (numS st b n) n wn i9 (dg, ln, lf, sm, c9, kp) = (i9 + (nI 1), (dg, -1, lf, sm, c9, kp)) := by unfold stepS; rw [if_neg g28_0, if_neg g28_1, if_neg g28_2, if_neg g28_3, if_neg g28_4, if_neg g28_5, if_neg g28_6, if_neg g28_7, if_neg (of_decide_eq_false c233)]
    exact x_iret C hr hlocks h ⟨by rw [hF], by rw [hF]; exact Eu28⟩ dX6_step_244
  · refine lv_iload hx hb dX6_step_236 (lv_at hl 0 rfl) ?_
    refine lv_goto (tgt := 244) hx hb dX6_step_238 (by decide) ?_
    rw [if_pos (of_decide_eq_true c233)] at Eu28
    have hF : stepS (ga st (300 + 4 * g + 1)) (ga st (300 + 4 * g + 2)) (ga st (300 + 4 * g + 3)) (numS st b n) n wn i9 (dg, ln, lf, sm, c9, kp) = (xget 160 (ga st (300 + 4 * g + 3)) i9, (dg, ln + nI 1, lf, sm, c9, kp)) := by unfold stepS; rw [if_neg g28_0, if_neg g28_1, if_neg g28_2, if_neg g28_3, if_neg g28_4, if_neg g28_5, if_neg g28_6, if_neg g28_7, if_pos (of_decide_eq_true c233)]
    exact x_iret C hr hlocks h ⟨by rw [hF], by rw [hF]; exact Eu28⟩ dX6_step_244

/-- the writer's line is none, or one of the lines -/
def lnOk (n : Nat) (ln : Int32) : Prop := ln = -1 ∨ ∃ j : Nat, j < n ∧ ln = nI j
theorem stepS_ln (D F S : Nat → Int32) (nm : Int32 → Int32 → Int32) {n : Nat} (hn1 : 0 < n) (hn31 : n < 2 ^ 31) (wn i : Int32) (w : WS) (h : lnOk n w.2.1) : lnOk n (stepS D F S nm n wn i w).2.2.1 := by
  unfold stepS
  split
  · exact h
  · split
    · exact h
    · split
      · exact h
      · split
        · exact h
        · split
          · exact h
          · split
            · exact h
            · split
              · exact h
              · split
                · exact Or.inr ⟨0, hn1, rfl⟩
                · split
                  · next hc => exact Or.inr (by
                      obtain ⟨j, hj, e⟩ := nI_of (x := w.2.1 + nI 1) hc.1
                      exact ⟨j, (nI_ltI hj hn31).mp (by rw [← e]; exact hc.2), e⟩)
                  · exact Or.inl rfl

theorem i32_le_nlt {a b : Int32} (h : a ≤ b) : ¬ b < a := by rw [Int32.le_iff_toInt_le] at h; rw [Int32.lt_iff_toInt_lt]; omega
theorem wr_wn (st : XS) (w : WS) (v : Int32) : si (wrS st w) 2 3 v = wrS (si st 2 3 v) w := by
  refine XS_ext (fun f k => ?_) (fun _ _ => rfl) (fun _ _ => rfl) (fun _ => rfl) (fun _ => rfl)
  unfold wrS
  simp only [gi_si, gi_sl, gi_sa]
  by_cases h1 : f = 2 ∧ k = 3
  · rw [if_pos h1, if_neg (by omega), if_neg (by omega), if_neg (by omega), if_pos h1]
  · rw [if_neg h1, if_neg h1]
theorem wr_id (st : XS) : wrS st (ga st 12, gi st 4 3, gl st 5 3, gl st 6 3, gi st 1 3, gi st 3 3) = st := by
  refine XS_ext (fun f k => ?_) (fun f k => ?_) (fun _ _ => rfl) (fun k => ?_) (fun _ => rfl)
  · unfold wrS
    simp only [gi_si, gi_sl, gi_sa]
    by_cases h1 : f = 1 ∧ k = 3
    · rw [if_pos h1, h1.1, h1.2]
    · rw [if_neg h1]
      by_cases h2 : f = 3 ∧ k = 3
      · rw [if_pos h2, h2.1, h2.2]
      · rw [if_neg h2]
        by_cases h3 : f = 4 ∧ k = 3
        · rw [if_pos h3, h3.1, h3.2]
        · rw [if_neg h3]
  · unfold wrS
    simp only [gl_si, gl_sl, gl_sa]
    by_cases h1 : f = 6 ∧ k = 3
    · rw [if_pos h1, h1.1, h1.2]
    · rw [if_neg h1]
      by_cases h2 : f = 5 ∧ k = 3
      · rw [if_pos h2, h2.1, h2.2]
      · rw [if_neg h2]
  · unfold wrS
    simp only [ga_si, ga_sl, ga_sa]
    by_cases h1 : k = 12
    · rw [if_pos h1, h1]
    · rw [if_neg h1]

theorem x_write0 (st : XS) (wn c kp ln : Int32) (lf sm : Int64) : sl (sl (si (si (si (si st 1 3 c) 2 3 wn) 3 3 kp) 4 3 ln) 5 3 lf) 6 3 sm = wrS (si st 2 3 wn) (ga st 12, ln, lf, sm, c, kp) := by
  refine XS_ext (fun f k => ?_) (fun f k => ?_) (fun _ _ => rfl) (fun k => ?_) (fun _ => rfl)
  · unfold wrS
    simp only [gi_si, gi_sl, gi_sa]
    by_cases hk : k = 3
    · simp only [hk, and_true]
      by_cases f1 : f = 1
      · simp [f1]
      · by_cases f2 : f = 2
        · simp [f2]
        · by_cases f3 : f = 3
          · simp [f3]
          · by_cases f4 : f = 4
            · simp [f4]
            · simp [f1, f2, f3, f4]
    · simp [hk]
  · rfl
  · unfold wrS
    simp only [ga_si, ga_sl, ga_sa]
    by_cases h1 : k = 12
    · rw [if_pos h1, h1]
    · rw [if_neg h1]

theorem numS_wn (st : XS) (v : Int32) (b n : Nat) (name idx : Int32) : numS (si st 2 3 v) b n name idx = numS st b n name idx := by
  have h1 : ∀ f, gi (si st 2 3 v) f (100 + 6 * b) = gi st f (100 + 6 * b) := fun f => by rw [gi_si, if_neg (by omega)]
  unfold numS
  simp only [h1]
  rfl

set_option maxHeartbeats 4000000 in
set_option maxRecDepth 100000 in
theorem c_X6_write (l : Launch) (D : va_G) (cy : Nat → ClassId) (ad : Nat → Nat) (Ls : List Nat) (st : XS) (hL : ∀ k, xC k = true → k ∈ Ls) (wn : Int32) {b : Nat} (hb33 : b < 33) (hB : ∀ j, j < 6 → 100 + 6 * b + j ∈ Ls) (n : Nat) (hn : n ≤ 6) (hc : gi st 3 (100 + 6 * b) = nI n) (hn1 : 0 < n) (hNm : ∀ name idx, lnOk n idx → numS st b n name idx = nI (numS st b n name idx).toNatClampNeg) {g : Nat} (hg40 : g < 40) (hG : ∀ j, j < 4 → 300 + 4 * g + j ∈ Ls) (gn : Nat) (hgn : gi st 3 (300 + 4 * g) = nI gn) (M : Nat) (hM : M = 1000000) : xMv l yX6_write cX6_write 6 7 D cy ad Ls st [.ref (ad 3), .ref (ad (100 + 6 * b)), .ref (ad (300 + 4 * g)), .int wn] (fun u => u = wrS (si st 2 3 wn) (runS (ga st (300 + 4 * g + 1)) (ga st (300 + 4 * g + 2)) (ga st (300 + 4 * g + 3)) (numS st b n) n wn (nI gn) M (nI 0, (ga st 12, -1, 0, 0, nI 0, nI 32)))) := by
  intro sz
  refine x_of sz (by decide +kernel) (Nat.le_of_ble_eq_true rfl) ?_
  intro p e s m args below meth c ls hx hb hr hlocks C hsz h hl
  have hl : lv_has ls 6 [(0, .ref (ad 3)), (1, .ref (ad (100 + 6 * b))), (2, .ref (ad (300 + 4 * g))), (3, .int wn)] := hl
  obtain ⟨H, eH⟩ : ∃ z, z = s.heap := ⟨_, rfl⟩
  obtain ⟨locs, eL⟩ : ∃ z : List Loc, z = [] := ⟨_, rfl⟩
  rw [← eH, ← eL] at h
  rw [← eH, ← eL]
  clear eH eL
  refine lv_aload_n hx hb dX6_write_0 rfl (lv_at hl 0 rfl) ?_
  refine lv_iconst (v := nI 0) hx hb dX6_write_1 (by decide) ?_
  refine pf_X6_15 C h (hL 3 rfl) rfl dX6_write_2 (fun H locs u1 eu1 h => ?_)
  refine lv_aload_n hx hb dX6_write_5 rfl (lv_at hl 0 rfl) ?_
  refine lv_iload_n hx hb dX6_write_6 rfl (lv_at hl 3 rfl) ?_
  refine pf_X6_19 C h (hL 3 rfl) rfl dX6_write_7 (fun H locs u2 eu2 h => ?_)
  refine lv_aload_n hx hb dX6_write_10 rfl (lv_at hl 0 rfl) ?_
  refine lv_bipush (v := nI 32) hx hb dX6_write_11 (by decide) ?_
  refine pf_X6_22 C h (hL 3 rfl) rfl (chr_ok0 (n := 32) (by omega)).1 (chr_ok0 (n := 32) (by omega)).2 dX6_write_13 (fun H locs u3 eu3 h => ?_)
  refine lv_aload_n hx hb dX6_write_16 rfl (lv_at hl 0 rfl) ?_
  refine lv_iconst (v := (-1)) hx hb dX6_write_17 (by decide) ?_
  refine pf_X6_26 C h (hL 3 rfl) rfl dX6_write_18 (fun H locs u4 eu4 h => ?_)
  refine lv_aload_n hx hb dX6_write_21 rfl (lv_at hl 0 rfl) ?_
  refine lv_lconst (v := 0) hx hb dX6_write_22 (by decide) ?_
  refine pf_X6_29 C h (hL 3 rfl) rfl dX6_write_23 (fun H locs u5 eu5 h => ?_)
  refine lv_aload_n hx hb dX6_write_26 rfl (lv_at hl 0 rfl) ?_
  refine lv_lconst (v := 0) hx hb dX6_write_27 (by decide) ?_
  refine pf_X6_33 C h (hL 3 rfl) rfl dX6_write_28 (fun H locs u6 eu6 h => ?_)
  rw [eu5, eu4, eu3, eu2, eu1, x_write0] at eu6
  obtain ⟨st8, hst8⟩ : ∃ y, y = si st 2 3 wn := ⟨_, rfl⟩
  rw [← hst8] at eu6
  have hwn : gi st8 2 3 = wn := by rw [hst8]; exact (gi_si ..).trans (if_pos ⟨rfl, rfl⟩)
  have hgn8 : gi st8 3 (300 + 4 * g) = nI gn := by rw [hst8, gi_si, if_neg (by omega)]; exact hgn
  have hc8 : gi st8 3 (100 + 6 * b) = nI n := by rw [hst8, gi_si, if_neg (by omega)]; exact hc
  have hnm8 : ∀ name idx, numS st8 b n name idx = numS st b n name idx := fun name idx => by rw [hst8]; exact numS_wn st wn b n name idx
  have hF8 : ga st8 = ga st := by rw [hst8]; rfl
  refine lv_iconst (v := nI 0) hx hb dX6_write_31 (by decide) ?_
  refine lv_istore (lv' := [(4, .int (nI 0)), (0, .ref (ad 3)), (1, .ref (ad (100 + 6 * b))), (2, .ref (ad (300 + 4 * g))), (3, .int wn)]) hx hb dX6_write_32 hl (by decide) rfl (fun ls hl => ?_)
  refine lv_iconst (v := nI 0) hx hb dX6_write_34 (by decide) ?_
  refine lv_istore (lv' := [(5, .int (nI 0)), (4, .int (nI 0)), (0, .ref (ad 3)), (1, .ref (ad (100 + 6 * b))), (2, .ref (ad (300 + 4 * g))), (3, .int wn)]) hx hb dX6_write_35 hl (by decide) rfl (fun ls hl => ?_)
  have L37 : ∀ (N37 : Nat) (v9 : XS) (w9 : WS) (i9 : Int32) (t : Nat) (hv9 : v9 = wrS st8 w9) (hF : runS (ga st (300 + 4 * g + 1)) (ga st (300 + 4 * g + 2)) (ga st (300 + 4 * g + 3)) (numS st b n) n wn (nI gn) M (nI 0, (ga st 12, -1, 0, 0, nI 0, nI 32)) = runS (ga st (300 + 4 * g + 1)) (ga st (300 + 4 * g + 2)) (ga st (300 + 4 * g + 3)) (numS st b n) n wn (nI gn) (M - t) (i9, w9)) (hlo : lnOk n w9.2.1) (ht : t ≤ M) (hN : M - t < N37) (H : Heap) (locs : List Loc) (ls : Array Slot), xH D cy ad Ls (XA ad Ls sz) s v9 H locs → lv_has ls 6 [(0, .ref (ad 3)), (1, .ref (ad (100 + 6 * b))), (2, .ref (ad (300 + 4 * g))), (4, .int i9), (5, .int (nI t))] → W p l e (xR 7) s m args below meth c H locs 0 0 (MQ below (va_Qv (fun u => u = wrS (si st 2 3 wn) (runS (ga st (300 + 4 * g + 1)) (ga st (300 + 4 * g + 2)) (ga st (300 + 4 * g + 3)) (numS st b n) n wn (nI gn) M (nI 0, (ga st 12, -1, 0, 0, nI 0, nI 32)))) (fun u => xPost D cy ad Ls (XA ad Ls sz) u) (XA ad Ls sz)) args s 0 0 (XA ad Ls sz)) (F0 m 37 ls []) := by
    intro N37
    induction N37 with
    | zero => intro v9 w9 i9 t hv9 hF hlo ht hN; omega
    | succ N37 ih37 =>
      intro v9 w9 i9 t hv9 hF hlo ht hN H locs ls h hl
      refine lv_iload hx hb dX6_write_37 (lv_at hl 4 rfl) ?_
      refine lv_ldc (v := nI 1000000) hx hb C.2.2.2.1 (C.2.2.2.2.1 _ tb708) dX6_write_39 ?_
      refine x_icmpN_ge (tgt := 69) hx hb dX6_write_41 (by decide) (by omega) (by omega) (fun c41 => ?_) (fun c41 => ?_)
      · exact x_vret C hr hlocks h (by rw [hF, show M - t = 0 by omega, ← hst8]; exact hv9) dX6_write_69
      · refine lv_iload hx hb dX6_write_44 (lv_at hl 3 rfl) ?_
        refine lv_aload_n hx hb dX6_write_46 rfl (lv_at hl 2 rfl) ?_
        refine gf_X6_37 C h (show 300 + 4 * g ∈ Ls from hG 0 (by decide)) (kd_f0 hg40) dX6_write_47 ?_
        refine x_topi (y := nI gn) (by rw [hv9, wr_o _ _ _ _ _ _ _ (Or.inl (by omega))]; exact hgn8) ?_
        refine lv_icmp_ge (tgt := 69) hx hb dX6_write_50 (by decide) (fun c50 => ?_) (fun c50 => ?_)
        · exact x_vret C hr hlocks h (by rw [hF, show M - t = (M - (t + 1)) + 1 by omega, runS, if_neg (show ¬ (i9, w9).1 < nI gn from i32_le_nlt c50), ← hst8]; exact hv9) dX6_write_69
        · refine lv_aload_n hx hb dX6_write_53 rfl (lv_at hl 0 rfl) ?_
          refine lv_aload_n hx hb dX6_write_54 rfl (lv_at hl 1 rfl) ?_
          refine lv_aload_n hx hb dX6_write_55 rfl (lv_at hl 2 rfl) ?_
          refine lv_iload hx hb dX6_write_56 (lv_at hl 3 rfl) ?_
          rw [hv9] at h
          refine cl_X6_42 C h (hL 3 rfl) rfl (c_X6_step l D cy ad Ls st8 hL wn hwn w9.1 w9.2.1 w9.2.2.1 w9.2.2.2.1 w9.2.2.2.2.1 w9.2.2.2.2.2 hb33 hB n hn hc8 (fun name => by rw [hnm8]; exact hNm name w9.2.1 hlo) hg40 hG i9) (x_room (by omega)) ⟨Nat.zero_le _, Nat.zero_le _⟩ hl.1 (Nat.le_of_ble_eq_true rfl) dX6_write_58 (fun r8 u7 H locs hp h => ?_)
          rw [hF8, show numS st8 b n = numS st b n from funext fun x => funext fun y => hnm8 x y] at hp
          obtain ⟨er, Eu7⟩ := hp; refine x_topi er ?_; clear er r8
          refine lv_istore (lv' := [(4, .int ((stepS (ga st (300 + 4 * g + 1)) (ga st (300 + 4 * g + 2)) (ga st (300 + 4 * g + 3)) (numS st b n) n wn i9 w9).1)), (0, .ref (ad 3)), (1, .ref (ad (100 + 6 * b))), (2, .ref (ad (300 + 4 * g))), (5, .int (nI t))]) hx hb dX6_write_61 hl (by decide) rfl (fun ls hl => ?_)
          refine lv_iinc (v := nI (t + 1)) (lv' := [(5, .int (nI (t + 1))), (4, .int ((stepS (ga st (300 + 4 * g + 1)) (ga st (300 + 4 * g + 2)) (ga st (300 + 4 * g + 3)) (numS st b n) n wn i9 w9).1)), (0, .ref (ad 3)), (1, .ref (ad (100 + 6 * b))), (2, .ref (ad (300 + 4 * g)))]) hx hb dX6_write_63 hl (k := 4) rfl (nI_add _ _) (by decide) rfl (fun ls hl => ?_)
          refine lv_goto (tgt := 37) hx hb dX6_write_66 (by decide) ?_
          exact ih37 u7 (stepS (ga st (300 + 4 * g + 1)) (ga st (300 + 4 * g + 2)) (ga st (300 + 4 * g + 3)) (numS st b n) n wn i9 w9).2 (stepS (ga st (300 + 4 * g + 1)) (ga st (300 + 4 * g + 2)) (ga st (300 + 4 * g + 3)) (numS st b n) n wn i9 w9).1 (t + 1) Eu7 (by rw [hF, show M - t = (M - (t + 1)) + 1 by omega, runS, if_pos (show (i9, w9).1 < nI gn from Decidable.not_not.mp (fun q => c50 (i32_nlt q)))]) (stepS_ln _ _ _ _ hn1 (by omega) _ _ _ hlo) (by omega) (by omega) H locs ls h (lv_sub hl [2, 3, 4, 1, 0] rfl)
  exact L37 (M + 1) u6 _ (nI 0) 0 eu6 rfl (Or.inl rfl) (by omega) (by omega) H locs ls h (lv_sub hl [2, 3, 4, 1, 0] rfl)
