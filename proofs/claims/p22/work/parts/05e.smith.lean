/-! ===== removeLine, strike, type, makeGood, settle, owed ===== -/
/-- the places j to i - 1 moved down by one -/
def shF (f : Nat → Int32) (j i : Nat) : Nat → Int32 := fun q => if j ≤ q ∧ q < i then f (q + 1) else f q
theorem shF_0 (f : Nat → Int32) (j : Nat) : shF f j j = f := by
  funext q; unfold shF; rw [if_neg (by omega)]
theorem shF_1 (f : Nat → Int32) {j i : Nat} (h : j ≤ i) : upd (shF f j i) i (shF f j i (i + 1)) = shF f j (i + 1) := by
  funext q
  unfold upd shF
  by_cases h1 : q = i
  · subst h1
    rw [if_pos rfl, if_neg (by omega), if_pos (by omega)]
  · rw [if_neg h1]
    by_cases h2 : j ≤ q ∧ q < i
    · rw [if_pos h2, if_pos (by omega)]
    · rw [if_neg h2, if_neg (by omega)]
def rmS (st : XS) (b j i : Nat) : XS := sa (sa (sa st (100 + 6 * b + 1) (shF (bK st b) j i)) (100 + 6 * b + 2) (shF (bQ st b) j i)) (100 + 6 * b + 3) (shF (bP st b) j i)
theorem rmS_1 (st : XS) (b j i : Nat) : ga (rmS st b j i) (100 + 6 * b + 1) = shF (bK st b) j i := by
  unfold rmS; rw [ga_sa, if_neg (by omega), ga_sa, if_neg (by omega), ga_self]
theorem rmS_2 (st : XS) (b j i : Nat) : ga (rmS st b j i) (100 + 6 * b + 2) = shF (bQ st b) j i := by
  unfold rmS; rw [ga_sa, if_neg (by omega), ga_self]
theorem rmS_3 (st : XS) (b j i : Nat) : ga (rmS st b j i) (100 + 6 * b + 3) = shF (bP st b) j i := by
  unfold rmS; rw [ga_self]
theorem rmS_0 (st : XS) (b j : Nat) : rmS st b j j = st := by
  unfold rmS
  rw [shF_0, shF_0, shF_0]
  have e1 : sa st (100 + 6 * b + 1) (bK st b) = st := sa_id st _
  rw [e1]
  have e2 : sa st (100 + 6 * b + 2) (bQ st b) = st := sa_id st _
  rw [e2]
  exact sa_id st _
theorem rmS_s (st : XS) (b : Nat) {j i : Nat} (h : j ≤ i) (v : XS) (hv : v = rmS st b j i) (u1 u2 u3 : XS) (h1 : u1 = sa v (100 + 6 * b + 1) (upd (ga v (100 + 6 * b + 1)) i (ga v (100 + 6 * b + 1) (i + 1)))) (h2 : u2 = sa u1 (100 + 6 * b + 2) (upd (ga u1 (100 + 6 * b + 2)) i (ga u1 (100 + 6 * b + 2) (i + 1)))) (h3 : u3 = sa u2 (100 + 6 * b + 3) (upd (ga u2 (100 + 6 * b + 3)) i (ga u2 (100 + 6 * b + 3) (i + 1)))) : u3 = rmS st b j (i + 1) := by
  have g1 : ga u1 (100 + 6 * b + 2) = shF (bQ st b) j i := by rw [h1, ga_sa, if_neg (by omega), hv, rmS_2]
  have g2 : ga u2 (100 + 6 * b + 3) = shF (bP st b) j i := by rw [h2, ga_sa, if_neg (by omega), h1, ga_sa, if_neg (by omega), hv, rmS_3]
  rw [g2, shF_1 _ h] at h3
  rw [g1, shF_1 _ h] at h2
  rw [hv, rmS_1, shF_1 _ h] at h1
  subst h1; subst h2; subst h3
  unfold rmS
  refine XS_ext (fun _ _ => rfl) (fun _ _ => rfl) (fun _ _ => rfl) (fun k => ?_) (fun _ => rfl)
  simp only [ga_sa]
  by_cases k1 : k = 100 + 6 * b + 1
  · rw [if_neg (by omega), if_neg (by omega), if_pos k1, if_neg (by omega), if_neg (by omega), if_pos k1]
  · by_cases k2 : k = 100 + 6 * b + 2
    · rw [if_neg (by omega), if_pos k2, if_neg (by omega), if_pos k2]
    · by_cases k3 : k = 100 + 6 * b + 3
      · rw [if_pos k3, if_pos k3]
      · simp only [if_neg k1, if_neg k2, if_neg k3]
/-- a bill is made good: the state, and how many notes there are -/
def mgD (st : XS) (nr b n : Nat) : Int32 := tkN st nr b n - (gi st 11 (100 + 6 * b) + gi st 12 (100 + 6 * b))
def mgS (nr b n : Nat) (x : XS × Nat) : XS × Nat :=
  if mgD x.1 nr b n = 0 then (tkS x.1 nr b, x.2)
  else (si (si (sa (sa (sa (tkS x.1 nr b) 17 (upd (ga x.1 17) x.2 (gi x.1 4 (100 + 6 * b)))) 18 (upd (ga x.1 18) x.2 (mgD x.1 nr b n))) 19 (upd (ga x.1 19) x.2 (gi x.1 4 0))) 3 5 (nI (x.2 + 1))) 12 (100 + 6 * b) (gi x.1 12 (100 + 6 * b) + mgD x.1 nr b n), x.2 + 1)
/-- settling a place: behind the first i bills -/
def stA (nr nB : Nat) (ln : Nat → Nat) (p : Int32) (x : XS × Nat) : Nat → XS × Nat
  | 0 => x
  | i + 1 => if i < nB ∧ (stA nr nB ln p x i).2 < 40 ∧ gi (stA nr nB ln p x i).1 7 (100 + 6 * i) = p then mgS nr i (ln i) (stA nr nB ln p x i) else stA nr nB ln p x i
theorem stA_full (nr nB : Nat) (ln : Nat → Nat) (p : Int32) (x : XS × Nat) (i : Nat) (h : 40 ≤ (stA nr nB ln p x i).2) : ∀ k, stA nr nB ln p x (i + k) = stA nr nB ln p x i := by
  intro k
  induction k with
  | zero => rfl
  | succ k ih =>
    show (if i + k < nB ∧ (stA nr nB ln p x (i + k)).2 < 40 ∧ gi (stA nr nB ln p x (i + k)).1 7 (100 + 6 * (i + k)) = p then mgS nr (i + k) (ln (i + k)) (stA nr nB ln p x (i + k)) else stA nr nB ln p x (i + k)) = _
    rw [ih, if_neg (by omega)]
/-- what settling leaves alone -/
def stK (st u : XS) : Prop := (∀ k, gb u k = gb st k) ∧ (∀ f k, gp u f k = gp st f k) ∧ (∀ f k, ¬ (f = 3 ∧ k = 5) → ¬ f = 12 → gi u f k = gi st f k) ∧ (∀ k, ¬ k = 10 → ¬ k = 17 → ¬ k = 18 → ¬ k = 19 → ga u k = ga st k) ∧ ∀ f k, gl u f k = gl st f k
theorem stK_rf (st : XS) : stK st st := ⟨fun _ => rfl, fun _ _ => rfl, fun _ _ _ _ => rfl, fun _ _ _ _ _ => rfl, fun _ _ => rfl⟩
theorem stK_tr {a b c : XS} (h : stK a b) (g : stK b c) : stK a c :=
  ⟨fun k => (g.1 k).trans (h.1 k), fun f k => (g.2.1 f k).trans (h.2.1 f k), fun f k h1 h2 => (g.2.2.1 f k h1 h2).trans (h.2.2.1 f k h1 h2), fun k h1 h2 h3 h4 => (g.2.2.2.1 k h1 h2 h3 h4).trans (h.2.2.2.1 k h1 h2 h3 h4), fun f k => (g.2.2.2.2 f k).trans (h.2.2.2.2 f k)⟩
theorem mgS_K (nr b n : Nat) (x : XS × Nat) : stK x.1 (mgS nr b n x).1 := by
  unfold mgS
  split
  · exact ⟨fun _ => rfl, fun _ _ => rfl, fun _ _ _ _ => rfl, fun k h1 _ _ _ => by unfold tkS; rw [ga_sa, if_neg h1], fun _ _ => rfl⟩
  · refine ⟨fun _ => rfl, fun _ _ => rfl, fun f k h1 h2 => ?_, fun k h1 h2 h3 h4 => ?_, fun _ _ => rfl⟩
    · rw [gi_si, if_neg (fun z => h2 z.1), gi_si, if_neg h1]; rfl
    · simp only [ga_si, ga_sa, if_neg h2, if_neg h3, if_neg h4]; unfold tkS; rw [ga_sa, if_neg h1]
theorem stA_K (nr nB : Nat) (ln : Nat → Nat) (p : Int32) (x : XS × Nat) : ∀ i, stK x.1 (stA nr nB ln p x i).1 := by
  intro i
  induction i with
  | zero => exact stK_rf _
  | succ i ih =>
    unfold stA
    split
    · exact stK_tr ih (mgS_K nr i (ln i) _)
    · exact ih
theorem mgS_n (nr b n : Nat) (x : XS × Nat) (h : gi x.1 3 5 = nI x.2) : gi (mgS nr b n x).1 3 5 = nI (mgS nr b n x).2 := by
  unfold mgS
  split
  · exact h
  · rw [gi_si, if_neg (by omega), gi_si, if_pos ⟨rfl, rfl⟩]
theorem stA_n (nr nB : Nat) (ln : Nat → Nat) (p : Int32) (x : XS × Nat) (h : gi x.1 3 5 = nI x.2) : ∀ i, gi (stA nr nB ln p x i).1 3 5 = nI (stA nr nB ln p x i).2 := by
  intro i
  induction i with
  | zero => exact h
  | succ i ih =>
    unfold stA
    split
    · exact mgS_n _ _ _ _ ih
    · exact ih
theorem stA_le (nr nB : Nat) (ln : Nat → Nat) (p : Int32) (x : XS × Nat) (h : x.2 ≤ 40) : ∀ i, (stA nr nB ln p x i).2 ≤ 40 := by
  intro i
  induction i with
  | zero => exact h
  | succ i ih =>
    unfold stA
    split
    · next hc => unfold mgS; split <;> simp only <;> omega
    · exact ih
/-- what a place owes -/
def owF (st : XS) (nB : Nat) (p : Int32) : Nat → Int32
  | 0 => nI 0
  | i + 1 => if i < nB ∧ gi st 7 (100 + 6 * i) = p then owF st nB p i + (gi st 11 (100 + 6 * i) + gi st 12 (100 + 6 * i)) else owF st nB p i

theorem nI_sub {a b : Nat} (h : b ≤ a) : nI a - nI b = nI (a - b) := by
  have e : nI a = nI (a - b) + nI b := by rw [nI_add, Nat.sub_add_cancel h]
  rw [e, Int32.add_sub_cancel]
theorem nI_ne1 {j : Nat} (h : j < 2 ^ 31) : ¬ nI j = -1 := fun e => by
  have := nI_pos (n := j) h
  rw [e] at this
  exact this (by decide)

set_option maxHeartbeats 4000000 in
set_option maxRecDepth 100000 in
theorem c_X7_type (l : Launch) (hl0 : l.stackTraces = false) (D : va_G) (cy : Nat → ClassId) (ad : Nat → Nat) (Ls : List Nat) (st : XS) (hL : ∀ k, xC k = true → k ∈ Ls) (np : Nat) (hnp160 : np ≤ 160) (hnp : gi st 1 2 = nI np) (n9 : Nat) (hn64 : n9 < 2 ^ 64) : xXi l yX7_type cX7_type 5 (some .int) 8 4 24 D cy ad Ls st [.ref (ad 0), .long (lN n9)] (fun E => exK (kType np n9) [eIAE, eISE] E) (fun r u => kType np n9 = 0 ∧ ∃ j : Nat, csN 8 n9 0 = some j ∧ r = nI (np + j) ∧ u = si (sa st 11 (apF (ga st 11) np n9 j)) 1 2 (nI (np + j))) := by
  intro sz
  refine x_ofX sz (by decide +kernel) (Nat.le_of_ble_eq_true rfl) ?_
  intro p e s m args below meth c ls hx hb hr hlocks hT0 C hsz h hl
  have hl : lv_has ls 5 [(0, .ref (ad 0)), (1, .long (lN n9))] := hl
  obtain ⟨H, eH⟩ : ∃ z, z = s.heap := ⟨_, rfl⟩
  obtain ⟨locs, eL⟩ : ∃ z : List Loc, z = [] := ⟨_, rfl⟩
  rw [← eH, ← eL] at h
  rw [← eH, ← eL]
  clear eH eL
  refine lv_aload_n hx hb dX7_type_0 rfl (lv_at hl 0 rfl) ?_
  refine gf_X7_10 C h (hL 0 rfl) rfl (k2 := 1) rfl dX7_type_1 ?_
  refine gf_X7_64 C h (hL 1 rfl) rfl (k2 := 2) rfl dX7_type_4 ?_
  refine lv_astore_n (lv' := [(3, .ref (ad 2)), (0, .ref (ad 0)), (1, .long (lN n9))]) hx hb dX7_type_7 rfl hl (by decide) rfl (fun ls hl => ?_)
  refine lv_lload_n hx hb dX7_type_8 rfl (lv_at hl 2 rfl) ?_
  refine cl_X7_68 C h (c_X3_countSigns l D cy ad Ls st n9 hn64) (x_roomX (by omega)) ⟨Nat.le_of_ble_eq_true rfl, Nat.le_of_ble_eq_true rfl⟩ hl.1 (Nat.le_of_ble_eq_true rfl) dX7_type_9 (fun r2 u1 H locs hp h => ?_)
  obtain ⟨er, eu⟩ := hp; rw [eu] at h; clear eu u1; rw [csF_N] at er
  obtain ⟨o, ho⟩ : ∃ o, o = csN 8 n9 0 := ⟨_, rfl⟩
  rw [← ho] at er
  rcases o with _ | j
  · refine x_topi (y := (-1)) er ?_
    refine lv_istore (lv' := [(4, .int (-1)), (3, .ref (ad 2)), (0, .ref (ad 0)), (1, .long (lN n9))]) hx hb dX7_type_12 hl (by decide) rfl (fun ls hl => ?_)
    refine lv_iload hx hb dX7_type_14 (lv_at hl 0 rfl) ?_
    refine lv_iconst (v := (-1)) hx hb dX7_type_16 (by decide) ?_
    refine lv_icmp_ne (tgt := 30) hx hb dX7_type_17 (by decide) (fun q => absurd rfl q) (fun _ => ?_)
    exact x_thr C h hl0 hT0 hlocks th_IAE (List.mem_of_getElem? (i := 0) rfl) hl.1 ⟨Nat.le_of_ble_eq_true rfl, Nat.le_of_ble_eq_true rfl⟩ ⟨Nat.le_of_ble_eq_true rfl, Nat.le_of_ble_eq_true rfl⟩ ⟨Nat.le_of_ble_eq_true rfl, Nat.le_of_ble_eq_true rfl⟩ rfl (exK_i 0 (by rw [kType, ← ho]) rfl) dX7_type_20 dX7_type_23 dX7_type_24 dX7_type_26 dX7_type_29
  · refine x_topi (y := nI j) er ?_
    have hj8 : j ≤ 8 := csN_le 8 n9 0 j ho.symm rfl
    refine lv_istore (lv' := [(4, .int (nI j)), (3, .ref (ad 2)), (0, .ref (ad 0)), (1, .long (lN n9))]) hx hb dX7_type_12 hl (by decide) rfl (fun ls hl => ?_)
    refine lv_iload hx hb dX7_type_14 (lv_at hl 0 rfl) ?_
    refine lv_iconst (v := (-1)) hx hb dX7_type_16 (by decide) ?_
    refine lv_icmp_ne (tgt := 30) hx hb dX7_type_17 (by decide) (fun _ => ?_) (fun q => absurd q (nI_ne1 (by omega)))
    refine lv_aload_n hx hb dX7_type_30 rfl (lv_at hl 1 rfl) ?_
    refine gf_X7_81 C h (hL 2 rfl) rfl dX7_type_31 ?_
    refine x_topi hnp ?_
    refine lv_iload hx hb dX7_type_34 (lv_at hl 0 rfl) ?_
    refine x_addN hx hb dX7_type_36 ?_
    refine lv_sipush (v := nI 160) hx hb dX7_type_37 (by decide) ?_
    refine x_icmpN_le (tgt := 53) hx hb dX7_type_40 (by decide) (by omega) (by omega) (fun c40 => ?_) (fun c40 => ?_)
    · refine lv_aload_n hx hb dX7_type_53 rfl (lv_at hl 1 rfl) ?_
      refine lv_lload_n hx hb dX7_type_54 rfl (lv_at hl 3 rfl) ?_
      refine lv_iload hx hb dX7_type_55 (lv_at hl 0 rfl) ?_
      refine cl_X7_90 C h (hL 2 rfl) rfl (c_X3_append l D cy ad Ls st hL n9 np j hn64 hnp (by omega)) (x_roomX (by omega)) ⟨Nat.le_of_ble_eq_true rfl, Nat.le_of_ble_eq_true rfl⟩ hl.1 (Nat.le_of_ble_eq_true rfl) dX7_type_57 (fun u3 H locs hp h => ?_)
      have eu3 := hp; clear hp
      have hk2 : gi u3 1 2 = nI (np + j) := by rw [eu3]; exact (gi_si ..).trans (if_pos ⟨rfl, rfl⟩)
      refine lv_aload_n hx hb dX7_type_60 rfl (lv_at hl 1 rfl) ?_
      refine gf_X7_81 C h (hL 2 rfl) rfl dX7_type_61 ?_
      refine x_topi hk2 ?_
      exact x_iretX C hr hlocks h (Nat.le_of_ble_eq_true rfl) (Nat.le_of_ble_eq_true rfl) ⟨by rw [kType, ← ho]; exact if_neg (Nat.not_lt.mpr c40), j, ho.symm, rfl, eu3⟩ dX7_type_64
    · exact x_thr C h hl0 hT0 hlocks th_ISE (List.mem_of_getElem? (i := 1) rfl) hl.1 ⟨Nat.le_of_ble_eq_true rfl, Nat.le_of_ble_eq_true rfl⟩ ⟨Nat.le_of_ble_eq_true rfl, Nat.le_of_ble_eq_true rfl⟩ ⟨Nat.le_of_ble_eq_true rfl, Nat.le_of_ble_eq_true rfl⟩ rfl (exK_i 1 (by rw [kType, ← ho]; exact if_pos c40) rfl) dX7_type_43 dX7_type_46 dX7_type_47 dX7_type_49 dX7_type_52

set_option maxHeartbeats 4000000 in
set_option maxRecDepth 100000 in
theorem c_X7_makeGood (l : Launch) (D : va_G) (cy : Nat → ClassId) (ad : Nat → Nat) (Ls : List Nat) (st : XS) (hL : ∀ k, xC k = true → k ∈ Ls) (nr : Nat) (hn60 : nr ≤ 60) (hc : gi st 4 4 = nI nr) (b : Nat) (hb33 : b < 33) (hB : ∀ j, j < 6 → 100 + 6 * b + j ∈ Ls) (nb : Nat) (hn6 : nb ≤ 6) (hcn : gi st 3 (100 + 6 * b) = nI nb) (nl : Nat) (hn40 : nl < 40) (hnl : gi st 3 5 = nI nl) : xMv l yX7_makeGood cX7_makeGood 3 7 D cy ad Ls st [.ref (ad 0), .ref (ad (100 + 6 * b))] (fun u => u = (mgS nr b nb (st, nl)).1) := by
  intro sz
  refine x_of sz (by decide +kernel) (Nat.le_of_ble_eq_true rfl) ?_
  intro p e s m args below meth c ls hx hb hr hlocks C hsz h hl
  have hl : lv_has ls 3 [(0, .ref (ad 0)), (1, .ref (ad (100 + 6 * b)))] := hl
  obtain ⟨H, eH⟩ : ∃ z, z = s.heap := ⟨_, rfl⟩
  obtain ⟨locs, eL⟩ : ∃ z : List Loc, z = [] := ⟨_, rfl⟩
  rw [← eH, ← eL] at h
  rw [← eH, ← eL]
  clear eH eL
  refine lv_aload_n hx hb dX7_makeGood_0 rfl (lv_at hl 0 rfl) ?_
  refine lv_aload_n hx hb dX7_makeGood_1 rfl (lv_at hl 1 rfl) ?_
  refine cl_X7_227 C h (hL 0 rfl) rfl (c_X7_taxKnownNow l D cy ad Ls st hL nr hn60 hc b hb33 hB nb hn6 hcn) (x_room (by omega)) ⟨Nat.zero_le _, Nat.zero_le _⟩ hl.1 (Nat.le_of_ble_eq_true rfl) dX7_makeGood_2 (fun r2 u1 H locs hp h => ?_)
  obtain ⟨er, eu1⟩ := hp; refine x_topi er ?_; clear er r2
  have hl2 : gi u1 3 5 = nI nl := by rw [eu1]; exact hnl
  refine lv_aload_n hx hb dX7_makeGood_5 rfl (lv_at hl 1 rfl) ?_
  refine cl_X7_222 C h (show 100 + 6 * b ∈ Ls from hB 0 (by decide)) (kd_b0 hb33) (c_X0_taxWithNotes l D cy ad Ls u1 hb33 hB) (x_room (by omega)) ⟨Nat.zero_le _, Nat.zero_le _⟩ hl.1 (Nat.le_of_ble_eq_true rfl) dX7_makeGood_6 (fun r4 u3 H locs hp h => ?_)
  obtain ⟨er4, eu3⟩ := hp; rw [eu3] at h; clear eu3 u3; refine x_topi er4 ?_; clear er4 r4
  refine x_topi (y := gi st 11 (100 + 6 * b) + gi st 12 (100 + 6 * b)) (by rw [eu1]; rfl) ?_
  refine lv_isub hx hb dX7_makeGood_9 ?_
  refine x_topi (y := mgD st nr b nb) rfl ?_
  refine lv_istore_n (lv' := [(2, .int (mgD st nr b nb)), (0, .ref (ad 0)), (1, .ref (ad (100 + 6 * b)))]) hx hb dX7_makeGood_10 rfl hl (by decide) rfl (fun ls hl => ?_)
  refine lv_iload_n hx hb dX7_makeGood_11 rfl (lv_at hl 0 rfl) ?_
  refine lv_if_eq (tgt := 41) hx hb dX7_makeGood_12 (by decide) (fun c12 => ?_) (fun c12 => ?_)
  · exact x_vret C hr hlocks h (by rw [mgS, if_pos c12]; exact eu1) dX7_makeGood_41
  · refine lv_aload_n hx hb dX7_makeGood_15 rfl (lv_at hl 1 rfl) ?_
    refine gf_X7_60 C h (hL 0 rfl) rfl (k2 := 5) rfl dX7_makeGood_16 ?_
    refine lv_aload_n hx hb dX7_makeGood_19 rfl (lv_at hl 2 rfl) ?_
    refine gf_X7_180 C h (show 100 + 6 * b ∈ Ls from hB 0 (by decide)) (kd_b0 hb33) dX7_makeGood_20 ?_
    refine lv_iload_n hx hb dX7_makeGood_23 rfl (lv_at hl 0 rfl) ?_
    refine lv_aload_n hx hb dX7_makeGood_24 rfl (lv_at hl 1 rfl) ?_
    refine gf_X7_115 C h (hL 0 rfl) rfl dX7_makeGood_25 ?_
    refine cl_X7_273 C h (hL 5 rfl) rfl (c_X2_enter l D cy ad Ls u1 hL nl hn40 hl2 (gi u1 4 (100 + 6 * b)) (mgD st nr b nb) (gi u1 4 0)) (x_room (by omega)) ⟨Nat.zero_le _, Nat.zero_le _⟩ hl.1 (Nat.le_of_ble_eq_true rfl) dX7_makeGood_28 (fun u5 H locs hp h => ?_)
    have eu5 := hp; clear hp
    refine lv_aload_n hx hb dX7_makeGood_31 rfl (lv_at hl 2 rfl) ?_
    refine lv_dup hx hb dX7_makeGood_32 rfl ?_
    refine gf_X7_276 C h (show 100 + 6 * b ∈ Ls from hB 0 (by decide)) (kd_b0 hb33) dX7_makeGood_33 ?_
    refine lv_iload_n hx hb dX7_makeGood_36 rfl (lv_at hl 0 rfl) ?_
    refine lv_iadd hx hb dX7_makeGood_37 ?_
    refine pf_X7_276 C h (show 100 + 6 * b ∈ Ls from hB 0 (by decide)) (kd_b0 hb33) dX7_makeGood_38 (fun H locs u7 eu7 h => ?_)
    have e8 : gi u7 12 (100 + 6 * b) = (gi u5 12 (100 + 6 * b)) + (mgD st nr b nb) := by rw [eu7, gi_si, if_pos ⟨rfl, rfl⟩]
    exact x_vret C hr hlocks h (by rw [mgS, if_neg c12]; rw [eu7, eu5, eu1]; rfl) dX7_makeGood_41

set_option maxHeartbeats 4000000 in
set_option maxRecDepth 100000 in
theorem c_X7_settle (l : Launch) (hl0 : l.stackTraces = false) (D : va_G) (cy : Nat → ClassId) (ad : Nat → Nat) (Ls : List Nat) (st : XS) (hL : ∀ k, xC k = true → k ∈ Ls) (nr : Nat) (hn60 : nr ≤ 60) (hc : gi st 4 4 = nI nr) (nB : Nat) (hnB : nB ≤ 30) (hrow : ∀ i, i < 30 → gb st 9 i = if i < nB then some (100 + 6 * i) else none) (hBL : ∀ b, b ≤ nB → ∀ j, j < 6 → 100 + 6 * b + j ∈ Ls) (ln : Nat → Nat) (hln : ∀ b, b ≤ nB → ln b ≤ 6 ∧ gi st 3 (100 + 6 * b) = nI (ln b)) (nl : Nat) (hnl40 : nl ≤ 40) (hnl : gi st 3 5 = nI nl) (p9 : Int32) : xXi l yX7_settle cX7_settle 5 (some .int) 9 4 24 D cy ad Ls st [.ref (ad 0), .int p9] (fun E => exK (kPlace p9) [eIOB] E) (fun r u => kPlace p9 = 0 ∧ r = nI (stA nr nB ln p9 (st, nl) 30).2 - nI nl ∧ u = (stA nr nB ln p9 (st, nl) 30).1) := by
  intro sz
  refine x_ofX sz (by decide +kernel) (Nat.le_of_ble_eq_true rfl) ?_
  intro p e s m args below meth c ls hx hb hr hlocks hT0 C hsz h hl
  have hl : lv_has ls 5 [(0, .ref (ad 0)), (1, .int p9)] := hl
  obtain ⟨H, eH⟩ : ∃ z, z = s.heap := ⟨_, rfl⟩
  obtain ⟨locs, eL⟩ : ∃ z : List Loc, z = [] := ⟨_, rfl⟩
  rw [← eH, ← eL] at h
  rw [← eH, ← eL]
  clear eH eL
  refine lv_iload_n hx hb dX7_settle_0 rfl (lv_at hl 1 rfl) ?_
  refine cx_X7_118 C h (c_X7_checkPlace l hl0 D cy ad Ls st p9) (x_roomX (by omega)) ⟨Nat.le_of_ble_eq_true rfl, Nat.le_of_ble_eq_true rfl⟩ hl.1 (Nat.le_of_ble_eq_true rfl) dX7_settle_1 (x_up C hT0 hlocks rfl (fun E z9 => exK_i 0 (by simp only [kPlace, if_true, if_false, true_or, or_true, false_or, or_false, or_self, not_true_eq_false, not_false_eq_true, Bool.false_eq_true, eq_self, and_self, and_true, true_and, false_and, and_false, z9.2]) (by rw [z9.1]; rfl)) ⟨Nat.le_of_ble_eq_true rfl, Nat.le_of_ble_eq_true rfl⟩) (fun u1 H locs hp h => ?_)
  obtain ⟨eu1, g3⟩ := hp; rw [eu1] at h; clear eu1 u1
  refine lv_aload_n hx hb dX7_settle_4 rfl (lv_at hl 0 rfl) ?_
  refine gf_X7_60 C h (hL 0 rfl) rfl (k2 := 5) rfl dX7_settle_5 ?_
  refine gf_X7_249 C h (hL 5 rfl) rfl dX7_settle_8 ?_
  refine x_topi hnl ?_
  refine lv_istore_n (lv' := [(2, .int (nI nl)), (0, .ref (ad 0)), (1, .int p9)]) hx hb dX7_settle_11 rfl hl (by decide) rfl (fun ls hl => ?_)
  refine lv_iconst (v := nI 0) hx hb dX7_settle_12 (by decide) ?_
  refine lv_istore_n (lv' := [(3, .int (nI 0)), (2, .int (nI nl)), (0, .ref (ad 0)), (1, .int p9)]) hx hb dX7_settle_13 rfl hl (by decide) rfl (fun ls hl => ?_)
  have L14 : ∀ (N14 : Nat) (v : XS) (n2 : Nat) (i : Nat) (hv : v = (stA nr nB ln p9 (st, nl) i).1) (hn2 : n2 = (stA nr nB ln p9 (st, nl) i).2) (hi : i ≤ 30) (hN : 30 - i < N14) (H : Heap) (locs : List Loc) (ls : Array Slot), xH D cy ad Ls (XA ad Ls sz) s v H locs → lv_has ls 5 [(0, .ref (ad 0)), (1, .int p9), (2, .int (nI nl)), (3, .int (nI i))] → W p l e (xRX 9 4 24) s m args below meth c H locs (0 + 1) (0 + 6) (vx_MQ below (va_Qi (fun r u => kPlace p9 = 0 ∧ r = nI (stA nr nB ln p9 (st, nl) 30).2 - nI nl ∧ u = (stA nr nB ln p9 (st, nl) 30).1) (fun u => xPost D cy ad Ls (XA ad Ls sz) u) (XA ad Ls sz)) (xXX (fun E => exK (kPlace p9) [eIOB] E) D cy ad Ls (XA ad Ls sz) st) args s 4 24 (XA ad Ls sz)) (F0 m 14 ls []) := by
    intro N14
    induction N14 with
    | zero => intro v n2 i hv hn2 hi hN; omega
    | succ N14 ih14 =>
      intro v n2 i hv hn2 hi hN H locs ls h hl
      have hv2 : gi v 3 5 = nI n2 := by rw [hv, hn2]; exact stA_n nr nB ln p9 (st, nl) hnl i
      have hn240 : n2 ≤ 40 := by rw [hn2]; exact stA_le nr nB ln p9 (st, nl) hnl40 i
      refine lv_iload_n hx hb dX7_settle_14 rfl (lv_at hl 3 rfl) ?_
      refine lv_aload_n hx hb dX7_settle_15 rfl (lv_at hl 0 rfl) ?_
      refine gf_X7_50 C h (hL 0 rfl) rfl (k2 := 9) rfl dX7_settle_16 ?_
      refine x_alenq C h (hL 9 rfl) (Or.inl ⟨rfl, rfl⟩) dX7_settle_19 ?_
      refine x_icmpN_ge (tgt := 69) hx hb dX7_settle_20 (by decide) (by omega) (by omega) (fun c20 => ?_) (fun c20 => ?_)
      · refine lv_aload_n hx hb dX7_settle_69 rfl (lv_at hl 0 rfl) ?_
        refine gf_X7_60 C h (hL 0 rfl) rfl (k2 := 5) rfl dX7_settle_70 ?_
        refine gf_X7_249 C h (hL 5 rfl) rfl dX7_settle_73 ?_
        refine x_topi hv2 ?_
        refine lv_iload_n hx hb dX7_settle_76 rfl (lv_at hl 2 rfl) ?_
        refine lv_isub hx hb dX7_settle_77 ?_
        have g7 : stA nr nB ln p9 (st, nl) 30 = stA nr nB ln p9 (st, nl) i := by rw [show i = 30 by omega]
        exact x_iretX C hr hlocks h (Nat.le_of_ble_eq_true rfl) (Nat.le_of_ble_eq_true rfl) ⟨by simp only [kPlace, if_true, if_false, true_or, or_true, false_or, or_false, or_self, not_true_eq_false, not_false_eq_true, Bool.false_eq_true, eq_self, and_self, and_true, true_and, false_and, and_false, g3, c20, Nat.not_lt.mpr c20], by rw [g7, ← hn2], by rw [g7]; exact hv⟩ dX7_settle_78
      · refine lv_aload_n hx hb dX7_settle_23 rfl (lv_at hl 0 rfl) ?_
        refine gf_X7_60 C h (hL 0 rfl) rfl (k2 := 5) rfl dX7_settle_24 ?_
        refine gf_X7_249 C h (hL 5 rfl) rfl dX7_settle_27 ?_
        refine x_topi hv2 ?_
        refine lv_bipush (v := nI 40) hx hb dX7_settle_30 (by decide) ?_
        refine x_icmpN_ge (tgt := 69) hx hb dX7_settle_32 (by decide) (by omega) (by omega) (fun c32 => ?_) (fun c32 => ?_)
        · refine lv_aload_n hx hb dX7_settle_69 rfl (lv_at hl 0 rfl) ?_
          refine gf_X7_60 C h (hL 0 rfl) rfl (k2 := 5) rfl dX7_settle_70 ?_
          refine gf_X7_249 C h (hL 5 rfl) rfl dX7_settle_73 ?_
          refine x_topi hv2 ?_
          refine lv_iload_n hx hb dX7_settle_76 rfl (lv_at hl 2 rfl) ?_
          refine lv_isub hx hb dX7_settle_77 ?_
          have g7 : stA nr nB ln p9 (st, nl) 30 = stA nr nB ln p9 (st, nl) i := by have q := stA_full nr nB ln p9 (st, nl) i (by rw [← hn2]; exact c32) (30 - i); rw [show i + (30 - i) = 30 by omega] at q; exact q
          exact x_iretX C hr hlocks h (Nat.le_of_ble_eq_true rfl) (Nat.le_of_ble_eq_true rfl) ⟨by simp only [kPlace, if_true, if_false, true_or, or_true, false_or, or_false, or_self, not_true_eq_false, not_false_eq_true, Bool.false_eq_true, eq_self, and_self, and_true, true_and, false_and, and_false, g3, c20, c32, Nat.not_le.mpr c20, Nat.not_lt.mpr c32], by rw [g7, ← hn2], by rw [g7]; exact hv⟩ dX7_settle_78
        · refine lv_aload_n hx hb dX7_settle_35 rfl (lv_at hl 0 rfl) ?_
          refine gf_X7_50 C h (hL 0 rfl) rfl (k2 := 9) rfl dX7_settle_36 ?_
          refine lv_iload_n hx hb dX7_settle_39 rfl (lv_at hl 3 rfl) ?_
          refine x_aldq C h (hL 9 rfl) (Or.inl ⟨rfl, rfl⟩) i (by omega) rfl dX7_settle_40 ?_
          rw [show gb v 9 i = if i < nB then some (100 + 6 * i) else none from (by rw [hv, (stA_K ..).1]; exact hrow i (by omega))]
          by_cases cj : i < nB
          · rw [if_pos cj]; refine x_topref (q := ad (100 + 6 * i)) rfl ?_
            have hB := hBL i (by omega)
            have hb33 : i < 33 := by omega
            refine lv_astore (lv' := [(4, .ref (ad (100 + 6 * i))), (0, .ref (ad 0)), (1, .int p9), (2, .int (nI nl)), (3, .int (nI i))]) hx hb dX7_settle_41 hl (by decide) rfl (fun ls hl => ?_)
            refine lv_aload hx hb dX7_settle_43 (lv_at hl 0 rfl) ?_
            refine lv_ifnull hx hb dX7_settle_45 ?_
            refine lv_aload hx hb dX7_settle_48 (lv_at hl 0 rfl) ?_
            refine gf_X7_189 C h (show 100 + 6 * i ∈ Ls from hB 0 (by decide)) (kd_b0 hb33) dX7_settle_50 ?_
            refine lv_iload_n hx hb dX7_settle_53 rfl (lv_at hl 2 rfl) ?_
            refine lv_icmp_ne (tgt := 63) hx hb dX7_settle_54 (by decide) (fun c54 => ?_) (fun c54 => ?_)
            · refine lv_iinc (v := nI (i + 1)) (lv' := [(3, .int (nI (i + 1))), (4, .ref (ad (100 + 6 * i))), (0, .ref (ad 0)), (1, .int p9), (2, .int (nI nl))]) hx hb dX7_settle_63 hl (k := 4) rfl (nI_add _ _) (by decide) rfl (fun ls hl => ?_)
              refine lv_goto (tgt := 14) hx hb dX7_settle_66 (by decide) ?_
              have g5 : stA nr nB ln p9 (st, nl) (i + 1) = stA nr nB ln p9 (st, nl) i := if_neg (fun q => c54 (by rw [hv]; exact q.2.2))
              exact ih14 v n2 (i + 1) (by rw [g5]; exact hv) (by rw [g5]; exact hn2) (by omega) (by omega) H locs ls h (lv_sub hl [2, 3, 4, 0] rfl)
            · refine lv_aload_n hx hb dX7_settle_57 rfl (lv_at hl 1 rfl) ?_
              refine lv_aload hx hb dX7_settle_58 (lv_at hl 0 rfl) ?_
              refine cl_X7_250 C h (hL 0 rfl) rfl (c_X7_makeGood l D cy ad Ls v hL nr hn60 (by rw [hv]; exact ((stA_K ..).2.2.1 4 4 (by decide) (by decide)).trans hc) i hb33 hB (ln i) (hln i (by omega)).1 (by rw [hv]; exact ((stA_K ..).2.2.1 _ _ (by omega) (by decide)).trans (hln i (by omega)).2) n2 c32 hv2) (x_roomX (by omega)) ⟨Nat.le_of_ble_eq_true rfl, Nat.le_of_ble_eq_true rfl⟩ hl.1 (Nat.le_of_ble_eq_true rfl) dX7_settle_60 (fun u4 H locs hp h => ?_)
              have eu4 := hp; clear hp
              refine lv_iinc (v := nI (i + 1)) (lv' := [(3, .int (nI (i + 1))), (4, .ref (ad (100 + 6 * i))), (0, .ref (ad 0)), (1, .int p9), (2, .int (nI nl))]) hx hb dX7_settle_63 hl (k := 4) rfl (nI_add _ _) (by decide) rfl (fun ls hl => ?_)
              refine lv_goto (tgt := 14) hx hb dX7_settle_66 (by decide) ?_
              have g5 : stA nr nB ln p9 (st, nl) (i + 1) = mgS nr i (ln i) (stA nr nB ln p9 (st, nl) i) := if_pos ⟨cj, by rw [← hn2]; exact c32, by rw [← hv]; exact c54⟩
              have g6 : stA nr nB ln p9 (st, nl) i = (v, n2) := Prod.ext hv.symm hn2.symm
              rw [g6] at g5
              exact ih14 u4 (mgS nr i (ln i) (v, n2)).2 (i + 1) (by rw [g5]; exact eu4) (by rw [g5]) (by omega) (by omega) H locs ls h (lv_sub hl [2, 3, 4, 0] rfl)
          · rw [if_neg cj]; refine x_topnull rfl ?_
            refine lv_astoreN (lv' := [(4, .null), (0, .ref (ad 0)), (1, .int p9), (2, .int (nI nl)), (3, .int (nI i))]) hx hb dX7_settle_41 hl (by decide) rfl (fun ls hl => ?_)
            refine lv_aloadN hx hb dX7_settle_43 (lv_at hl 0 rfl) ?_
            refine lv_ifnullN (tgt := 63) hx hb dX7_settle_45 (by decide) ?_
            refine lv_iinc (v := nI (i + 1)) (lv' := [(3, .int (nI (i + 1))), (4, .null), (0, .ref (ad 0)), (1, .int p9), (2, .int (nI nl))]) hx hb dX7_settle_63 hl (k := 4) rfl (nI_add _ _) (by decide) rfl (fun ls hl => ?_)
            refine lv_goto (tgt := 14) hx hb dX7_settle_66 (by decide) ?_
            have g5 : stA nr nB ln p9 (st, nl) (i + 1) = stA nr nB ln p9 (st, nl) i := if_neg (fun q => cj q.1)
            exact ih14 v n2 (i + 1) (by rw [g5]; exact hv) (by rw [g5]; exact hn2) (by omega) (by omega) H locs ls h (lv_sub hl [2, 3, 4, 0] rfl)
  exact L14 31 st nl 0 rfl rfl (by omega) (by omega) H locs ls h (lv_sub hl [2, 3, 1, 0] rfl)

set_option maxHeartbeats 4000000 in
set_option maxRecDepth 100000 in
theorem c_X7_owed (l : Launch) (hl0 : l.stackTraces = false) (D : va_G) (cy : Nat → ClassId) (ad : Nat → Nat) (Ls : List Nat) (st : XS) (hL : ∀ k, xC k = true → k ∈ Ls) (nB : Nat) (hnB : nB ≤ 30) (hrow : ∀ i, i < 30 → gb st 9 i = if i < nB then some (100 + 6 * i) else none) (hBL : ∀ b, b ≤ nB → ∀ j, j < 6 → 100 + 6 * b + j ∈ Ls) (ln : Nat → Nat) (hln : ∀ b, b ≤ nB → ln b ≤ 6 ∧ gi st 3 (100 + 6 * b) = nI (ln b)) (p9 : Int32) : xXi l yX7_owed cX7_owed 5 (some .int) 9 4 24 D cy ad Ls st [.ref (ad 0), .int p9] (fun E => exK (kPlace p9) [eIOB] E) (fun r u => kPlace p9 = 0 ∧ r = owF st nB p9 30 ∧ u = st) := by
  intro sz
  refine x_ofX sz (by decide +kernel) (Nat.le_of_ble_eq_true rfl) ?_
  intro p e s m args below meth c ls hx hb hr hlocks hT0 C hsz h hl
  have hl : lv_has ls 5 [(0, .ref (ad 0)), (1, .int p9)] := hl
  obtain ⟨H, eH⟩ : ∃ z, z = s.heap := ⟨_, rfl⟩
  obtain ⟨locs, eL⟩ : ∃ z : List Loc, z = [] := ⟨_, rfl⟩
  rw [← eH, ← eL] at h
  rw [← eH, ← eL]
  clear eH eL
  refine lv_iload_n hx hb dX7_owed_0 rfl (lv_at hl 1 rfl) ?_
  refine cx_X7_118 C h (c_X7_checkPlace l hl0 D cy ad Ls st p9) (x_roomX (by omega)) ⟨Nat.le_of_ble_eq_true rfl, Nat.le_of_ble_eq_true rfl⟩ hl.1 (Nat.le_of_ble_eq_true rfl) dX7_owed_1 (x_up C hT0 hlocks rfl (fun E z9 => exK_i 0 (by simp only [kPlace, if_true, if_false, true_or, or_true, false_or, or_false, or_self, not_true_eq_false, not_false_eq_true, Bool.false_eq_true, eq_self, and_self, and_true, true_and, false_and, and_false, z9.2]) (by rw [z9.1]; rfl)) ⟨Nat.le_of_ble_eq_true rfl, Nat.le_of_ble_eq_true rfl⟩) (fun u1 H locs hp h => ?_)
  obtain ⟨eu1, g3⟩ := hp; rw [eu1] at h; clear eu1 u1
  refine lv_iconst (v := nI 0) hx hb dX7_owed_4 (by decide) ?_
  refine lv_istore_n (lv' := [(2, .int (nI 0)), (0, .ref (ad 0)), (1, .int p9)]) hx hb dX7_owed_5 rfl hl (by decide) rfl (fun ls hl => ?_)
  refine lv_iconst (v := nI 0) hx hb dX7_owed_6 (by decide) ?_
  refine lv_istore_n (lv' := [(3, .int (nI 0)), (2, .int (nI 0)), (0, .ref (ad 0)), (1, .int p9)]) hx hb dX7_owed_7 rfl hl (by decide) rfl (fun ls hl => ?_)
  have L8 : ∀ (N8 : Nat) (i : Nat) (o : Int32) (ho : o = owF st nB p9 i) (hi : i ≤ 30) (hN : 30 - i < N8) (H : Heap) (locs : List Loc) (ls : Array Slot), xH D cy ad Ls (XA ad Ls sz) s st H locs → lv_has ls 5 [(0, .ref (ad 0)), (1, .int p9), (2, .int o), (3, .int (nI i))] → W p l e (xRX 9 4 24) s m args below meth c H locs (0 + 1) (0 + 6) (vx_MQ below (va_Qi (fun r u => kPlace p9 = 0 ∧ r = owF st nB p9 30 ∧ u = st) (fun u => xPost D cy ad Ls (XA ad Ls sz) u) (XA ad Ls sz)) (xXX (fun E => exK (kPlace p9) [eIOB] E) D cy ad Ls (XA ad Ls sz) st) args s 4 24 (XA ad Ls sz)) (F0 m 8 ls []) := by
    intro N8
    induction N8 with
    | zero => intro i o ho hi hN; omega
    | succ N8 ih8 =>
      intro i o ho hi hN H locs ls h hl
      refine lv_iload_n hx hb dX7_owed_8 rfl (lv_at hl 3 rfl) ?_
      refine lv_aload_n hx hb dX7_owed_9 rfl (lv_at hl 0 rfl) ?_
      refine gf_X7_50 C h (hL 0 rfl) rfl (k2 := 9) rfl dX7_owed_10 ?_
      refine x_alenq C h (hL 9 rfl) (Or.inl ⟨rfl, rfl⟩) dX7_owed_13 ?_
      refine x_icmpN_ge (tgt := 53) hx hb dX7_owed_14 (by decide) (by omega) (by omega) (fun c14 => ?_) (fun c14 => ?_)
      · refine lv_iload_n hx hb dX7_owed_53 rfl (lv_at hl 2 rfl) ?_
        exact x_iretX C hr hlocks h (Nat.le_of_ble_eq_true rfl) (Nat.le_of_ble_eq_true rfl) ⟨by simp only [kPlace, if_true, if_false, true_or, or_true, false_or, or_false, or_self, not_true_eq_false, not_false_eq_true, Bool.false_eq_true, eq_self, and_self, and_true, true_and, false_and, and_false, g3, c14, Nat.not_lt.mpr c14], by rw [ho, show i = 30 by omega], rfl⟩ dX7_owed_54
      · refine lv_aload_n hx hb dX7_owed_17 rfl (lv_at hl 0 rfl) ?_
        refine gf_X7_50 C h (hL 0 rfl) rfl (k2 := 9) rfl dX7_owed_18 ?_
        refine lv_iload_n hx hb dX7_owed_21 rfl (lv_at hl 3 rfl) ?_
        refine x_aldq C h (hL 9 rfl) (Or.inl ⟨rfl, rfl⟩) i (by omega) rfl dX7_owed_22 ?_
        rw [show gb st 9 i = if i < nB then some (100 + 6 * i) else none from hrow i (by omega)]
        by_cases cj : i < nB
        · rw [if_pos cj]; refine x_topref (q := ad (100 + 6 * i)) rfl ?_
          have hB := hBL i (by omega)
          have hb33 : i < 33 := by omega
          refine lv_astore (lv' := [(4, .ref (ad (100 + 6 * i))), (0, .ref (ad 0)), (1, .int p9), (2, .int o), (3, .int (nI i))]) hx hb dX7_owed_23 hl (by decide) rfl (fun ls hl => ?_)
          refine lv_aload hx hb dX7_owed_25 (lv_at hl 0 rfl) ?_
          refine lv_ifnull hx hb dX7_owed_27 ?_
          refine lv_aload hx hb dX7_owed_30 (lv_at hl 0 rfl) ?_
          refine gf_X7_189 C h (show 100 + 6 * i ∈ Ls from hB 0 (by decide)) (kd_b0 hb33) dX7_owed_32 ?_
          refine lv_iload_n hx hb dX7_owed_35 rfl (lv_at hl 2 rfl) ?_
          refine lv_icmp_ne (tgt := 47) hx hb dX7_owed_36 (by decide) (fun c36 => ?_) (fun c36 => ?_)
          · refine lv_iinc (v := nI (i + 1)) (lv' := [(3, .int (nI (i + 1))), (4, .ref (ad (100 + 6 * i))), (0, .ref (ad 0)), (1, .int p9), (2, .int o)]) hx hb dX7_owed_47 hl (k := 4) rfl (nI_add _ _) (by decide) rfl (fun ls hl => ?_)
            refine lv_goto (tgt := 8) hx hb dX7_owed_50 (by decide) ?_
            exact ih8 (i + 1) _ (by rw [owF, if_neg (fun q => c36 q.2)]; exact ho) (by omega) (by omega) H locs ls h (lv_sub hl [2, 3, 4, 0] rfl)
          · refine lv_iload_n hx hb dX7_owed_39 rfl (lv_at hl 3 rfl) ?_
            refine lv_aload hx hb dX7_owed_40 (lv_at hl 0 rfl) ?_
            refine cl_X7_222 C h (show 100 + 6 * i ∈ Ls from hB 0 (by decide)) (kd_b0 hb33) (c_X0_taxWithNotes l D cy ad Ls st hb33 hB) (x_roomX (by omega)) ⟨Nat.le_of_ble_eq_true rfl, Nat.le_of_ble_eq_true rfl⟩ hl.1 (Nat.le_of_ble_eq_true rfl) dX7_owed_42 (fun r5 u4 H locs hp h => ?_)
            obtain ⟨er5, eu4⟩ := hp; rw [eu4] at h; clear eu4 u4; refine x_topi er5 ?_; clear er5 r5
            refine lv_iadd hx hb dX7_owed_45 ?_
            refine lv_istore_n (lv' := [(2, .int (o + (gi st 11 (100 + 6 * i) + gi st 12 (100 + 6 * i)))), (4, .ref (ad (100 + 6 * i))), (0, .ref (ad 0)), (1, .int p9), (3, .int (nI i))]) hx hb dX7_owed_46 rfl hl (by decide) rfl (fun ls hl => ?_)
            refine lv_iinc (v := nI (i + 1)) (lv' := [(3, .int (nI (i + 1))), (2, .int (o + (gi st 11 (100 + 6 * i) + gi st 12 (100 + 6 * i)))), (4, .ref (ad (100 + 6 * i))), (0, .ref (ad 0)), (1, .int p9)]) hx hb dX7_owed_47 hl (k := 4) rfl (nI_add _ _) (by decide) rfl (fun ls hl => ?_)
            refine lv_goto (tgt := 8) hx hb dX7_owed_50 (by decide) ?_
            exact ih8 (i + 1) _ (by rw [owF, if_pos ⟨cj, c36⟩, ← ho]) (by omega) (by omega) H locs ls h (lv_sub hl [3, 4, 1, 0] rfl)
        · rw [if_neg cj]; refine x_topnull rfl ?_
          refine lv_astoreN (lv' := [(4, .null), (0, .ref (ad 0)), (1, .int p9), (2, .int o), (3, .int (nI i))]) hx hb dX7_owed_23 hl (by decide) rfl (fun ls hl => ?_)
          refine lv_aloadN hx hb dX7_owed_25 (lv_at hl 0 rfl) ?_
          refine lv_ifnullN (tgt := 47) hx hb dX7_owed_27 (by decide) ?_
          refine lv_iinc (v := nI (i + 1)) (lv' := [(3, .int (nI (i + 1))), (4, .null), (0, .ref (ad 0)), (1, .int p9), (2, .int o)]) hx hb dX7_owed_47 hl (k := 4) rfl (nI_add _ _) (by decide) rfl (fun ls hl => ?_)
          refine lv_goto (tgt := 8) hx hb dX7_owed_50 (by decide) ?_
          exact ih8 (i + 1) _ (by rw [owF, if_neg (fun q => cj q.1)]; exact ho) (by omega) (by omega) H locs ls h (lv_sub hl [2, 3, 4, 0] rfl)
  exact L8 31 0 _ rfl (by omega) (by omega) H locs ls h (lv_sub hl [2, 3, 1, 0] rfl)
