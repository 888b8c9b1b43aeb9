/-! ===== the template is read ===== -/
def rowL (f : Nat → Int32) (l : List Int32) : Nat → Int32 := fun j => if j < l.length then l.getD j 0 else f j
theorem rowL_add (f : Nat → Int32) (l : List Int32) (v : Int32) (h : l.length < 160) : xset 160 (rowL f l) (nI l.length) v = rowL f (l ++ [v]) := by
  rw [xset_nI h (by decide)]
  funext j
  unfold rowL upd
  rw [List.length_append, List.length_singleton]
  by_cases e : j = l.length
  · subst e
    rw [if_pos rfl, if_pos (Nat.lt_succ_self _), List.getD_eq_getElem?_getD, List.getElem?_append_right (Nat.le_refl _), Nat.sub_self]; rfl
  · rw [if_neg e]
    show (if j < l.length then l.getD j 0 else f j) = _
    by_cases e2 : j < l.length
    · rw [if_pos e2, if_pos (by omega), List.getD_eq_getElem?_getD, List.getD_eq_getElem?_getD, List.getElem?_append_left e2]
    · rw [if_neg e2, if_neg (by omega)]
theorem rowL_set (f : Nat → Int32) (l : List Int32) (v : Int32) {i : Nat} (h : i < l.length) (h2 : l.length ≤ 160) : xset 160 (rowL f l) (nI i) v = rowL f (l.set i v) := by
  rw [xset_nI (by omega) (by decide)]
  funext j
  unfold rowL upd
  rw [List.length_set]
  by_cases e : j = i
  · subst e
    rw [if_pos rfl, if_pos h, List.getD_eq_getElem?_getD, List.getElem?_set_self h]; rfl
  · rw [if_neg e]
    show (if j < l.length then l.getD j 0 else f j) = _
    by_cases e2 : j < l.length
    · rw [if_pos e2, if_pos e2, List.getD_eq_getElem?_getD, List.getD_eq_getElem?_getD, List.getElem?_set_ne (Ne.symm e)]
    · rw [if_neg e2, if_neg e2]
section
variable (D0 F0 S0 : Nat → Int32)
/-- the reader's state: at, parts, and the codes (deeds, firsts, seconds) -/
def rs (a p : Nat) (A B E : List Int32) : RS := (nI a, nI p, nI A.length, rowL D0 A, rowL F0 B, rowL S0 E)
variable {a p : Nat} {A B E : List Int32}
theorem rs_up : rUp (rs D0 F0 S0 a p A B E) = rs D0 F0 S0 (a + 1) p A B E := by unfold rUp rs; rw [nI_add]
theorem rs_up2 : rUp2 (rs D0 F0 S0 a p A B E) = rs D0 F0 S0 (a + 2) p A B E := by unfold rUp2 rs; rw [nI_add]
theorem rs_pt : rPt (rs D0 F0 S0 a p A B E) = rs D0 F0 S0 a (p + 1) A B E := by unfold rPt rs; rw [nI_add]
theorem rs_add (i j k : Int32) (h1 : B.length = A.length) (h2 : E.length = A.length) (h3 : A.length < 160) : rAdd (rs D0 F0 S0 a p A B E) i j k = rs D0 F0 S0 a p (A ++ [i]) (B ++ [j]) (E ++ [k]) := by
  unfold rAdd rs
  show (nI a, nI p, nI A.length + nI 1, xset 160 (rowL D0 A) (nI A.length) i, xset 160 (rowL F0 B) (nI A.length) j, xset 160 (rowL S0 E) (nI A.length) k) = _
  rw [rowL_add _ _ _ h3, show xset 160 (rowL F0 B) (nI A.length) j = rowL F0 (B ++ [j]) by rw [← h1]; exact rowL_add _ _ _ (by omega), show xset 160 (rowL S0 E) (nI A.length) k = rowL S0 (E ++ [k]) by rw [← h2]; exact rowL_add _ _ _ (by omega), nI_add, List.length_append, List.length_singleton]
theorem rs_aim {i : Nat} (hi : i < E.length) (h3 : E.length ≤ 160) : rAim (rs D0 F0 S0 a p A B E) (nI i) = rs D0 F0 S0 a p A B (E.set i (nI A.length)) := by
  unfold rAim rs
  show (nI a, nI p, nI A.length, rowL D0 A, rowL F0 B, xset 160 (rowL S0 E) (nI i) (nI A.length)) = _
  rw [rowL_set _ _ _ hi h3]
variable {T : Nat → Int32} {np : Nat} {il ol : Bool}
theorem q_t {c : Int32} (h : sgF T np (nI a) = c) : rSkip T np c (rs D0 F0 S0 a p A B E) = (true, rs D0 F0 S0 (a + 1) p A B E) := by
  unfold rSkip; rw [show (rs D0 F0 S0 a p A B E).1 = nI a from rfl, if_pos h, rs_up]
theorem q_f {c : Int32} (h : ¬ sgF T np (nI a) = c) : rSkip T np c (rs D0 F0 S0 a p A B E) = (false, rs D0 F0 S0 a p A B E) := by
  unfold rSkip; exact if_neg h
theorem q_fld0 {c : Int32} (h0 : sgF T np (nI a) = c) (h1 : nmB c il = true) (h2 : sgF T np (nI (a + 1)) = nI 125) (hB : B.length = A.length) (hE : E.length = A.length) (hA : A.length < 160) : rField T np il (rs D0 F0 S0 a p A B E) = (true, rs D0 F0 S0 (a + 2) (p + 1) (A ++ [nI 1]) (B ++ [c]) (E ++ [nI 0])) := by
  unfold rField
  rw [show (rs D0 F0 S0 a p A B E).1 = nI a from rfl, h0, if_pos h1, rs_up, rs_pt]
  have hw : rWid T np (rs D0 F0 S0 (a + 1) (p + 1) A B E) = (nI 0, rs D0 F0 S0 (a + 1) (p + 1) A B E) := by
    unfold rWid; rw [show (rs D0 F0 S0 (a + 1) (p + 1) A B E).1 = nI (a + 1) from rfl, h2, if_neg (by decide)]
  rw [hw, rs_add _ _ _ _ _ _ hB hE hA, q_t _ _ _ h2]
theorem q_fld1 {c : Int32} {w : Nat} (h0 : sgF T np (nI a) = c) (h1 : nmB c il = true) (h2 : sgF T np (nI (a + 1)) = nI (48 + w)) (hw1 : 1 ≤ w) (hw9 : w ≤ 9) (h3 : sgF T np (nI (a + 2)) = nI 125) (hB : B.length = A.length) (hE : E.length = A.length) (hA : A.length < 160) : rField T np il (rs D0 F0 S0 a p A B E) = (true, rs D0 F0 S0 (a + 3) (p + 1) (A ++ [nI 1]) (B ++ [c]) (E ++ [nI w])) := by
  unfold rField
  rw [show (rs D0 F0 S0 a p A B E).1 = nI a from rfl, h0, if_pos h1, rs_up, rs_pt]
  have hw : rWid T np (rs D0 F0 S0 (a + 1) (p + 1) A B E) = (nI w, rs D0 F0 S0 (a + 2) (p + 1) A B E) := by
    unfold rWid
    rw [show (rs D0 F0 S0 (a + 1) (p + 1) A B E).1 = nI (a + 1) from rfl, h2, if_pos ⟨nI_nlt (by omega) (by omega), nI_nlt (by omega) (by decide)⟩, rs_up, nI_sub (by omega), Nat.add_sub_cancel_left]
  rw [hw, rs_add _ _ _ _ _ _ hB hE hA, q_t _ _ _ h3]
theorem q_nm {c i : Int32} (h0 : sgF T np (nI a) = c) (h1 : nmB c il = true) (hB : B.length = A.length) (hE : E.length = A.length) (hA : A.length < 160) : rTerm T np i il (rs D0 F0 S0 a p A B E) = (true, rs D0 F0 S0 (a + 1) p (A ++ [i]) (B ++ [c]) (E ++ [nI 0])) := by
  unfold rTerm
  rw [show (rs D0 F0 S0 a p A B E).1 = nI a from rfl, h0, if_pos h1, rs_up, rs_add _ _ _ _ _ _ hB hE hA]
theorem dg_y {w : Nat} (h : w ≤ 9) : dgB (nI (48 + w)) = true := by
  unfold dgB
  rw [decide_eq_true (nI_nlt (by omega) (by omega)), decide_eq_true (nI_nlt (by omega) (by decide))]; rfl
theorem dg_v (v w : Nat) : nI v * nI 10 + (nI (48 + w) - nI 48) = nI (v * 10 + w) := by rw [nI_sub (by omega), Nat.add_sub_cancel_left, pk_mul, nI_add]
theorem nm_dg {w : Nat} (h : w ≤ 9) (il : Bool) : nmB (nI (48 + w)) il = false := by
  rcases (show w = 0 ∨ w = 1 ∨ w = 2 ∨ w = 3 ∨ w = 4 ∨ w = 5 ∨ w = 6 ∨ w = 7 ∨ w = 8 ∨ w = 9 by omega) with rfl | rfl | rfl | rfl | rfl | rfl | rfl | rfl | rfl | rfl <;> cases il <;> decide
theorem q_num {i : Int32} {d0 d1 d2 : Nat} (h0 : sgF T np (nI a) = nI (48 + d0)) (h1 : sgF T np (nI (a + 1)) = nI (48 + d1)) (h2 : sgF T np (nI (a + 2)) = nI (48 + d2)) (h3 : dgB (sgF T np (nI (a + 3))) = false) (g0 : d0 ≤ 9) (g1 : d1 ≤ 9) (g2 : d2 ≤ 9) (hB : B.length = A.length) (hE : E.length = A.length) (hA : A.length < 160) : rTerm T np i il (rs D0 F0 S0 a p A B E) = (true, rs D0 F0 S0 (a + 3) p (A ++ [i]) (B ++ [nI 0]) (E ++ [nI ((d0 * 10 + d1) * 10 + d2)])) := by
  have hd : rDig T np 6 (rs D0 F0 S0 a p A B E) (nI 0) 0 = (rs D0 F0 S0 (a + 3) p A B E, nI ((d0 * 10 + d1) * 10 + d2), 3) := by
    rw [rDig, show (rs D0 F0 S0 a p A B E).1 = nI a from rfl, h0, if_pos (dg_y g0), dg_v, rs_up, rDig, show (rs D0 F0 S0 (a + 1) p A B E).1 = nI (a + 1) from rfl, h1, if_pos (dg_y g1), dg_v, rs_up, rDig, show (rs D0 F0 S0 (a + 1 + 1) p A B E).1 = nI (a + 2) from rfl, h2, if_pos (dg_y g2), dg_v, rs_up, rDig, show (rs D0 F0 S0 (a + 1 + 1 + 1) p A B E).1 = nI (a + 3) from rfl, h3, if_neg (by decide)]
    congr 3
    omega
  unfold rTerm
  rw [show (rs D0 F0 S0 a p A B E).1 = nI a from rfl, h0, nm_dg g0, if_neg (by decide), hd, rs_add _ _ _ _ _ _ hB hE hA]
  rfl
theorem q_se {n : Nat} (h1 : ¬ sgF T np (nI a) = nI 43) (h2 : ¬ sgF T np (nI a) = nI 45) : rSumL T np il n (rs D0 F0 S0 a p A B E) = (true, rs D0 F0 S0 a p A B E) := by
  cases n with
  | zero => rfl
  | succ n => rw [rSumL, q_f _ _ _ h1, if_neg (fun q => by cases q), q_f _ _ _ h2, if_neg (fun q => by cases q)]
theorem q_sp {n : Nat} {y : RS} (hn : 0 < n) (h1 : sgF T np (nI a) = nI 43) (h2 : rTerm T np (nI 2) il (rs D0 F0 S0 (a + 1) p A B E) = (true, y)) : rSumL T np il n (rs D0 F0 S0 a p A B E) = rSumL T np il (n - 1) y := by
  obtain ⟨n, rfl⟩ : ∃ q, n = q + 1 := ⟨n - 1, by omega⟩
  rw [Nat.add_sub_cancel]
  rw [rSumL, q_t _ _ _ h1, if_pos rfl, h2, if_pos rfl]
/-- the PARTs -/
theorem q_end {lp ch : RS → Bool × RS} {n : Nat} (h : rStop T np ol (rs D0 F0 S0 a p A B E) = true) : rPartsL T np lp ch il ol n (rs D0 F0 S0 a p A B E) = (true, rs D0 F0 S0 a p A B E) := by
  cases n with
  | zero => rfl
  | succ n => rw [rPartsL, if_pos h]
theorem q_txt {lp ch : RS → Bool × RS} {n : Nat} {c : Int32} (hn : 0 < n) (h0 : sgF T np (nI a) = c) (h : rStop T np ol (rs D0 F0 S0 a p A B E) = false) (h1 : ¬ c = nI 123) (hB : B.length = A.length) (hE : E.length = A.length) (hA : A.length < 160) : rPartsL T np lp ch il ol n (rs D0 F0 S0 a p A B E) = rPartsL T np lp ch il ol (n - 1) (rs D0 F0 S0 (a + 1) p (A ++ [nI 0]) (B ++ [c]) (E ++ [nI 0])) := by
  obtain ⟨n, rfl⟩ : ∃ q, n = q + 1 := ⟨n - 1, by omega⟩
  rw [Nat.add_sub_cancel]
  rw [rPartsL, h, if_neg (by decide), show (rs D0 F0 S0 a p A B E).1 = nI a from rfl, h0, if_neg h1, rs_up, rs_add _ _ _ _ _ _ hB hE hA]
theorem q_br {lp ch : RS → Bool × RS} {n : Nat} {y : RS} (hn : 0 < n) (h0 : sgF T np (nI a) = nI 123) (h : rStop T np ol (rs D0 F0 S0 a p A B E) = false) (h1 : rPart T np lp ch il (rs D0 F0 S0 (a + 1) p A B E) = (true, y)) : rPartsL T np lp ch il ol n (rs D0 F0 S0 a p A B E) = rPartsL T np lp ch il ol (n - 1) y := by
  obtain ⟨n, rfl⟩ : ∃ q, n = q + 1 := ⟨n - 1, by omega⟩
  rw [Nat.add_sub_cancel]
  rw [rPartsL, h, if_neg (by decide), show (rs D0 F0 S0 a p A B E).1 = nI a from rfl, h0, if_pos rfl, rs_up, h1, if_pos rfl]
theorem q_brf {lp ch : RS → Bool × RS} {n : Nat} {y : RS} (hn : 0 < n) (h0 : sgF T np (nI a) = nI 123) (h : rStop T np ol (rs D0 F0 S0 a p A B E) = false) (h1 : rPart T np lp ch il (rs D0 F0 S0 (a + 1) p A B E) = (false, y)) : rPartsL T np lp ch il ol n (rs D0 F0 S0 a p A B E) = (false, y) := by
  obtain ⟨n, rfl⟩ : ∃ q, n = q + 1 := ⟨n - 1, by omega⟩
  rw [rPartsL, h, if_neg (by decide), show (rs D0 F0 S0 a p A B E).1 = nI a from rfl, h0, if_pos rfl, rs_up, h1, if_neg (fun q => by cases q)]
theorem q_pf {lp ch : RS → Bool × RS} {c : Int32} (h0 : sgF T np (nI a) = c) (h1 : ¬ c = nI 42) (h2 : ¬ c = nI 63) : rPart T np lp ch il (rs D0 F0 S0 a p A B E) = rField T np il (rs D0 F0 S0 a p A B E) := by
  unfold rPart; rw [show (rs D0 F0 S0 a p A B E).1 = nI a from rfl, h0, if_neg h1, if_neg h2]
theorem q_pl {lp ch : RS → Bool × RS} (h0 : sgF T np (nI a) = nI 42) : rPart T np lp ch il (rs D0 F0 S0 a p A B E) = lp (rs D0 F0 S0 a p A B E) := by
  unfold rPart; rw [show (rs D0 F0 S0 a p A B E).1 = nI a from rfl, h0, if_pos rfl]
theorem q_pc {lp ch : RS → Bool × RS} (h0 : sgF T np (nI a) = nI 63) : rPart T np lp ch il (rs D0 F0 S0 a p A B E) = ch (rs D0 F0 S0 a p A B E) := by
  unfold rPart; rw [show (rs D0 F0 S0 a p A B E).1 = nI a from rfl, h0, if_neg (by decide), if_pos rfl]
theorem s_n {c : Int32} (h0 : sgF T np (nI a) = c) (h1 : ¬ c = 0) (h2 : ¬ c = nI 124) (h3 : ¬ c = nI 125) (h4 : ol = false ∨ ¬ c = nI 42) : rStop T np ol (rs D0 F0 S0 a p A B E) = false := by
  unfold rStop
  rw [show (rs D0 F0 S0 a p A B E).1 = nI a from rfl, h0, decide_eq_false h1, decide_eq_false h2, decide_eq_false h3]
  rcases h4 with h4 | h4
  · rw [h4]; rfl
  · unfold rEnds
    rw [show (rs D0 F0 S0 a p A B E).1 = nI a from rfl, h0, if_neg h4]
    cases ol <;> rfl
theorem s_y {c : Int32} (h0 : sgF T np (nI a) = c) (h1 : c = 0 ∨ c = nI 124 ∨ c = nI 125) : rStop T np ol (rs D0 F0 S0 a p A B E) = true := by
  unfold rStop
  rw [show (rs D0 F0 S0 a p A B E).1 = nI a from rfl, h0]
  rcases h1 with h1 | h1 | h1
  · rw [decide_eq_true h1]; rfl
  · rw [decide_eq_true h1, Bool.or_true]; rfl
  · rw [decide_eq_true h1, Bool.or_true]; rfl
theorem e_y (h0 : sgF T np (nI a) = nI 42) (h1 : sgF T np (nI (a + 1)) = nI 125) : rEnds T np (rs D0 F0 S0 a p A B E) = true := by
  unfold rEnds
  rw [show (rs D0 F0 S0 a p A B E).1 = nI a from rfl, h0, if_pos rfl, nI_add, h1]; rfl
theorem e_n (h0 : ¬ sgF T np (nI a) = nI 42) : rEnds T np (rs D0 F0 S0 a p A B E) = false := by
  unfold rEnds; exact if_neg h0
theorem s_e (h0 : sgF T np (nI a) = nI 42) (h1 : sgF T np (nI (a + 1)) = nI 125) : rStop T np true (rs D0 F0 S0 a p A B E) = true := by
  unfold rStop; rw [e_y _ _ _ h0 h1, Bool.true_and, Bool.or_true]
theorem k_txt {lp ch : RS → Bool × RS} {n : Nat} {c : Int32} {G : Bool × RS} (hn : 0 < n) (h0 : sgF T np (nI a) = c) (h : rStop T np ol (rs D0 F0 S0 a p A B E) = false) (h1 : ¬ c = nI 123) (hB : B.length = A.length) (hE : E.length = A.length) (hA : A.length < 160) (kk : rPartsL T np lp ch il ol (n - 1) (rs D0 F0 S0 (a + 1) p (A ++ [nI 0]) (B ++ [c]) (E ++ [nI 0])) = G) : rPartsL T np lp ch il ol n (rs D0 F0 S0 a p A B E) = G := (q_txt D0 F0 S0 hn h0 h h1 hB hE hA).trans kk
theorem k_br {lp ch : RS → Bool × RS} {n : Nat} {y : RS} {G : Bool × RS} (hn : 0 < n) (h0 : sgF T np (nI a) = nI 123) (h : rStop T np ol (rs D0 F0 S0 a p A B E) = false) (h1 : rPart T np lp ch il (rs D0 F0 S0 (a + 1) p A B E) = (true, y)) (kk : rPartsL T np lp ch il ol (n - 1) y = G) : rPartsL T np lp ch il ol n (rs D0 F0 S0 a p A B E) = G := (q_br D0 F0 S0 hn h0 h h1).trans kk
theorem k_pf {lp ch : RS → Bool × RS} {c : Int32} {G : Bool × RS} (h0 : sgF T np (nI a) = c) (h1 : ¬ c = nI 42) (h2 : ¬ c = nI 63) (kk : rField T np il (rs D0 F0 S0 a p A B E) = G) : rPart T np lp ch il (rs D0 F0 S0 a p A B E) = G := (q_pf D0 F0 S0 h0 h1 h2).trans kk
theorem k_pl {lp ch : RS → Bool × RS} {G : Bool × RS} (h0 : sgF T np (nI a) = nI 42) (kk : lp (rs D0 F0 S0 a p A B E) = G) : rPart T np lp ch il (rs D0 F0 S0 a p A B E) = G := (q_pl D0 F0 S0 h0).trans kk
theorem k_pc {lp ch : RS → Bool × RS} {G : Bool × RS} (h0 : sgF T np (nI a) = nI 63) (kk : ch (rs D0 F0 S0 a p A B E) = G) : rPart T np lp ch il (rs D0 F0 S0 a p A B E) = G := (q_pc D0 F0 S0 h0).trans kk
theorem k_sp {n : Nat} {y : RS} {G : Bool × RS} (hn : 0 < n) (h1 : sgF T np (nI a) = nI 43) (h2 : rTerm T np (nI 2) il (rs D0 F0 S0 (a + 1) p A B E) = (true, y)) (kk : rSumL T np il (n - 1) y = G) : rSumL T np il n (rs D0 F0 S0 a p A B E) = G := (q_sp D0 F0 S0 hn h1 h2).trans kk
theorem p_s (N : Nat) (hN : N = 160) (k : Nat) (x : RS) : rParts T np (k + 1) il ol x = rPartsL T np (fun y => if il then (false, y) else rLoop T np (rParts T np k true true) y) (fun y => rChoice T np il (rParts T np k il false) y) il ol N x := by rw [hN, rParts]
theorem su_N (N : Nat) (hN : N = 160) (x : RS) : rSum T np il x = if (rTerm T np (nI 2) il x).1 then rSumL T np il N (rTerm T np (nI 2) il x).2 else (false, (rTerm T np (nI 2) il x).2) := by rw [hN]; rfl
end
