/-! ===== the reference: reading; its state ===== -/
/-- at, fault, deep, parts; the rows areLoops, begins, middles, marks, bodies, others -/
abbrev MR : Type := Int32 × Int32 × Int32 × Int32 × (Nat → Int32) × (Nat → Int32) × (Nat → Int32) × (Nat → Int32) × (Nat → Int32) × (Nat → Int32)
def rqS (st : XS) (x : MR) : XS := si (si (si (si (sa (sa (sa (sa (sa (sa st 36 x.2.2.2.2.2.2.2.1) 37 x.2.2.2.2.2.2.2.2.1) 38 x.2.2.2.2.2.2.2.2.2) 43 x.2.2.2.2.1) 44 x.2.2.2.2.2.1) 45 x.2.2.2.2.2.2.1) 12 30 x.2.2.2.1) 11 30 x.2.2.1) 10 30 x.2.1) 9 30 x.1
section RM
variable {st : XS} {a f d q v : Int32} {al bg mi mk bo ot r : Nat → Int32}
theorem gi_rm (F k : Nat) : gi (rqS st (a, f, d, q, al, bg, mi, mk, bo, ot)) F k = if F = 9 ∧ k = 30 then a else if F = 10 ∧ k = 30 then f else if F = 11 ∧ k = 30 then d else if F = 12 ∧ k = 30 then q else gi st F k := rfl
theorem ga_rm (k : Nat) : ga (rqS st (a, f, d, q, al, bg, mi, mk, bo, ot)) k = if k = 45 then mi else if k = 44 then bg else if k = 43 then al else if k = 38 then ot else if k = 37 then bo else if k = 36 then mk else ga st k := rfl
theorem gi_rm9 : gi (rqS st (a, f, d, q, al, bg, mi, mk, bo, ot)) 9 30 = a := by rw [gi_rm]; rfl
theorem gi_rm10 : gi (rqS st (a, f, d, q, al, bg, mi, mk, bo, ot)) 10 30 = f := by rw [gi_rm]; rfl
theorem gi_rm11 : gi (rqS st (a, f, d, q, al, bg, mi, mk, bo, ot)) 11 30 = d := by rw [gi_rm]; rfl
theorem gi_rm12 : gi (rqS st (a, f, d, q, al, bg, mi, mk, bo, ot)) 12 30 = q := by rw [gi_rm]; rfl
theorem ga_rm43 : ga (rqS st (a, f, d, q, al, bg, mi, mk, bo, ot)) 43 = al := by rw [ga_rm]; rfl
theorem ga_rm44 : ga (rqS st (a, f, d, q, al, bg, mi, mk, bo, ot)) 44 = bg := by rw [ga_rm]; rfl
theorem ga_rm45 : ga (rqS st (a, f, d, q, al, bg, mi, mk, bo, ot)) 45 = mi := by rw [ga_rm]; rfl
theorem ga_rm36 : ga (rqS st (a, f, d, q, al, bg, mi, mk, bo, ot)) 36 = mk := by rw [ga_rm]; rfl
theorem ga_rm37 : ga (rqS st (a, f, d, q, al, bg, mi, mk, bo, ot)) 37 = bo := by rw [ga_rm]; rfl
theorem ga_rm38 : ga (rqS st (a, f, d, q, al, bg, mi, mk, bo, ot)) 38 = ot := by rw [ga_rm]; rfl
theorem gi_rmo {F k : Nat} (h : ¬ (8 < F ∧ F < 13)) : gi (rqS st (a, f, d, q, al, bg, mi, mk, bo, ot)) F k = gi st F k := by rw [gi_rm, if_neg (by omega), if_neg (by omega), if_neg (by omega), if_neg (by omega)]
theorem ga_rmo {k : Nat} (h : ¬ (35 < k ∧ k < 39 ∨ 42 < k ∧ k < 46)) : ga (rqS st (a, f, d, q, al, bg, mi, mk, bo, ot)) k = ga st k := by rw [ga_rm, if_neg (by omega), if_neg (by omega), if_neg (by omega), if_neg (by omega), if_neg (by omega), if_neg (by omega)]
theorem rm_9 : si (rqS st (a, f, d, q, al, bg, mi, mk, bo, ot)) 9 30 v = rqS st (v, f, d, q, al, bg, mi, mk, bo, ot) := by
  refine XS_ext (fun F k => ?_) (fun _ _ => rfl) (fun _ _ => rfl) (fun _ => rfl) (fun _ => rfl)
  rw [gi_si, gi_rm, gi_rm]; repeat' split
  all_goals first | rfl | omega
theorem rm_10 : si (rqS st (a, f, d, q, al, bg, mi, mk, bo, ot)) 10 30 v = rqS st (a, v, d, q, al, bg, mi, mk, bo, ot) := by
  refine XS_ext (fun F k => ?_) (fun _ _ => rfl) (fun _ _ => rfl) (fun _ => rfl) (fun _ => rfl)
  rw [gi_si, gi_rm, gi_rm]; repeat' split
  all_goals first | rfl | omega
theorem rm_11 : si (rqS st (a, f, d, q, al, bg, mi, mk, bo, ot)) 11 30 v = rqS st (a, f, v, q, al, bg, mi, mk, bo, ot) := by
  refine XS_ext (fun F k => ?_) (fun _ _ => rfl) (fun _ _ => rfl) (fun _ => rfl) (fun _ => rfl)
  rw [gi_si, gi_rm, gi_rm]; repeat' split
  all_goals first | rfl | omega
theorem rm_12 : si (rqS st (a, f, d, q, al, bg, mi, mk, bo, ot)) 12 30 v = rqS st (a, f, d, v, al, bg, mi, mk, bo, ot) := by
  refine XS_ext (fun F k => ?_) (fun _ _ => rfl) (fun _ _ => rfl) (fun _ => rfl) (fun _ => rfl)
  rw [gi_si, gi_rm, gi_rm]; repeat' split
  all_goals first | rfl | omega
theorem rm_43 : sa (rqS st (a, f, d, q, al, bg, mi, mk, bo, ot)) 43 r = rqS st (a, f, d, q, r, bg, mi, mk, bo, ot) := by
  refine XS_ext (fun _ _ => rfl) (fun _ _ => rfl) (fun _ _ => rfl) (fun k => ?_) (fun _ => rfl)
  rw [ga_sa, ga_rm, ga_rm]; repeat' split
  all_goals first | rfl | omega
theorem rm_44 : sa (rqS st (a, f, d, q, al, bg, mi, mk, bo, ot)) 44 r = rqS st (a, f, d, q, al, r, mi, mk, bo, ot) := by
  refine XS_ext (fun _ _ => rfl) (fun _ _ => rfl) (fun _ _ => rfl) (fun k => ?_) (fun _ => rfl)
  rw [ga_sa, ga_rm, ga_rm]; repeat' split
  all_goals first | rfl | omega
theorem rm_45 : sa (rqS st (a, f, d, q, al, bg, mi, mk, bo, ot)) 45 r = rqS st (a, f, d, q, al, bg, r, mk, bo, ot) := by
  refine XS_ext (fun _ _ => rfl) (fun _ _ => rfl) (fun _ _ => rfl) (fun k => ?_) (fun _ => rfl)
  rw [ga_sa, ga_rm, ga_rm]; repeat' split
  all_goals first | rfl | omega
theorem rm_36 : sa (rqS st (a, f, d, q, al, bg, mi, mk, bo, ot)) 36 r = rqS st (a, f, d, q, al, bg, mi, r, bo, ot) := by
  refine XS_ext (fun _ _ => rfl) (fun _ _ => rfl) (fun _ _ => rfl) (fun k => ?_) (fun _ => rfl)
  rw [ga_sa, ga_rm, ga_rm]; repeat' split
  all_goals first | rfl | omega
theorem rm_37 : sa (rqS st (a, f, d, q, al, bg, mi, mk, bo, ot)) 37 r = rqS st (a, f, d, q, al, bg, mi, mk, r, ot) := by
  refine XS_ext (fun _ _ => rfl) (fun _ _ => rfl) (fun _ _ => rfl) (fun k => ?_) (fun _ => rfl)
  rw [ga_sa, ga_rm, ga_rm]; repeat' split
  all_goals first | rfl | omega
theorem rm_38 : sa (rqS st (a, f, d, q, al, bg, mi, mk, bo, ot)) 38 r = rqS st (a, f, d, q, al, bg, mi, mk, bo, r) := by
  refine XS_ext (fun _ _ => rfl) (fun _ _ => rfl) (fun _ _ => rfl) (fun k => ?_) (fun _ => rfl)
  rw [ga_sa, ga_rm, ga_rm]; repeat' split
  all_goals first | rfl | omega
end RM
def pqE (x : Nat × Bool) : Int32 := if x.2 then -1 else nI x.1
section PQ
variable (pg : Nat → Int32) (np : Nat)
/-- behind up to n digits -/
def pqD : Nat → Nat → Nat
  | 0, a => a
  | n + 1, a => if inR (msgF pg np a) (nI 48) (nI 57) then pqD n (a + 1) else a
def pqT (il : Bool) (a : Nat) : Nat × Bool := if a < pqD pg np 6 a then (pqD pg np 6 a, true) else if nmB (msgF pg np a) il then (a + 1, true) else (a, false)
def pqL (il : Bool) : Nat → Nat → Nat × Bool
  | 0, a => (a, true)
  | n + 1, a => if msgF pg np a = nI 43 ∨ msgF pg np a = nI 45 then (if (pqT pg np il (a + 1)).2 then pqL il n (pqT pg np il (a + 1)).1 else ((pqT pg np il (a + 1)).1, false)) else (a, true)
def pqS (il : Bool) (a : Nat) : Nat × Bool := if (pqT pg np il a).2 then pqL pg np il 160 (pqT pg np il a).1 else ((pqT pg np il a).1, false)
def pqR (x : Int32) : Bool := decide (x = nI 60) || decide (x = nI 62) || decide (x = nI 61)
/-- a choice, from its ? on: where it stands, is it behind the : -/
def pqC (il : Bool) (a : Nat) : Nat × Bool :=
  if (pqS pg np il (a + 1)).2 then
    (if pqR (msgF pg np (pqS pg np il (a + 1)).1) then
      (if (pqS pg np il ((pqS pg np il (a + 1)).1 + 1)).2 then
        (if msgF pg np (pqS pg np il ((pqS pg np il (a + 1)).1 + 1)).1 = nI 58 then ((pqS pg np il ((pqS pg np il (a + 1)).1 + 1)).1 + 1, true) else ((pqS pg np il ((pqS pg np il (a + 1)).1 + 1)).1, false))
      else ((pqS pg np il ((pqS pg np il (a + 1)).1 + 1)).1, false))
    else ((pqS pg np il (a + 1)).1, false))
  else ((pqS pg np il (a + 1)).1, false)
def pqF (a : Nat) : Nat × Bool := if inR (msgF pg np (a + 1)) (nI 49) (nI 57) then (a + 1 + 1, decide (msgF pg np (a + 1 + 1) = nI 125)) else (a + 1, decide (msgF pg np (a + 1) = nI 125))
/-- what begins with a brace at a -/
def pqB (il : Bool) (dn bs a : Nat) (q : Int32) (al bg mi mk bo ot : Nat → Int32) : MR :=
  if msgF pg np (a + 1) = nI 42 ∧ dn < 5 ∧ il = false then (nI (a + 1 + 1), -1, nI (dn + 1), q + nI 1, upd al dn (bi true), upd bg dn (nI a), upd mi dn (-1), mk, upd bo (bs + a) (nI (a + 1 + 1)), ot)
  else if msgF pg np (a + 1) = nI 63 ∧ dn < 5 then
    (if (pqC pg np il (a + 1)).2 then (nI (pqC pg np il (a + 1)).1, -1, nI (dn + 1), q + nI 1, upd al dn (bi false), upd bg dn (nI a), upd mi dn (-1), mk, upd bo (bs + a) (nI (pqC pg np il (a + 1)).1), ot)
    else (nI (pqC pg np il (a + 1)).1, nI (pqC pg np il (a + 1)).1, nI dn, q, al, bg, mi, mk, upd bo (bs + a) (nI (pqC pg np il (a + 1)).1), ot))
  else if nmB (msgF pg np (a + 1)) il then (nI ((pqF pg np (a + 1)).1 + 1), pqE (pqF pg np (a + 1)), nI dn, q + nI 1, al, bg, mi, mk, bo, ot)
  else (nI (a + 1), nI (a + 1), nI dn, q, al, bg, mi, mk, bo, ot)
def pqO (bs b0 a : Nat) (mo : Option Nat) (ot : Nat → Int32) : Nat → Int32 := match mo with
  | none => upd ot (bs + b0) (nI (a + 1))
  | some j => upd (upd ot (bs + b0) (nI (j + 1))) (bs + j) (nI (a + 1))
variable {pg np}
theorem msg_lt {a k : Nat} (h : msgF pg np a = nI k) (hk : k < 1000) : a < np := by
  rw [msgF] at h
  by_cases h1 : a < np
  · exact h1
  · rw [if_neg h1] at h; exact absurd h.symm (nI_ne1 (by omega))
theorem msg_dg {a : Nat} {lo hi : Nat} (h : inR (msgF pg np a) (nI lo) (nI hi) = true) (hl : lo < 1000) : a < np := by
  rw [msgF] at h
  by_cases h1 : a < np
  · exact h1
  · rw [if_neg h1] at h
    exact absurd (show (-1 : Int32) < nI lo by rw [Int32.lt_iff_toInt_lt, nI_toInt (by omega)]; show (-1 : Int) < (lo : Int); omega) (inR_t h).1
theorem msg_nm {a : Nat} {il : Bool} (h : nmB (msgF pg np a) il = true) : a < np := by
  rw [msgF] at h
  by_cases h1 : a < np
  · exact h1
  · rw [if_neg h1] at h
    exact absurd h (by cases il <;> decide)
theorem pqD_le : ∀ (n a : Nat), a ≤ pqD pg np n a ∧ (a ≤ np → pqD pg np n a ≤ np) := by
  intro n
  induction n with
  | zero => intro a; exact ⟨Nat.le_refl _, fun h => h⟩
  | succ n ih =>
    intro a
    rw [pqD]
    split
    · next h => have h1 := msg_dg h (by decide); have := ih (a + 1); exact ⟨by omega, fun _ => this.2 (by omega)⟩
    · exact ⟨Nat.le_refl _, fun h => h⟩
theorem pqT_le {il : Bool} (a : Nat) : a ≤ (pqT pg np il a).1 ∧ (a ≤ np → (pqT pg np il a).1 ≤ np) := by
  rw [pqT]
  split
  · have := pqD_le (pg := pg) (np := np) 6 a; exact ⟨by show a ≤ pqD pg np 6 a; omega, this.2⟩
  · split
    · next h => have := msg_nm h; exact ⟨Nat.le_succ _, fun _ => this⟩
    · exact ⟨Nat.le_refl _, fun h => h⟩
theorem pqL_le {il : Bool} : ∀ (n a : Nat), a ≤ (pqL pg np il n a).1 ∧ (a ≤ np → (pqL pg np il n a).1 ≤ np) := by
  intro n
  induction n with
  | zero => intro a; exact ⟨Nat.le_refl _, fun h => h⟩
  | succ n ih =>
    intro a
    rw [pqL]
    split
    · next h =>
      have h1 : a < np := h.elim (fun q => msg_lt q (by decide)) (fun q => msg_lt q (by decide))
      have h2 := pqT_le (pg := pg) (np := np) (il := il) (a + 1)
      split
      · have := ih (pqT pg np il (a + 1)).1; exact ⟨by omega, fun _ => this.2 (h2.2 h1)⟩
      · exact ⟨by show a ≤ (pqT pg np il (a + 1)).1; omega, fun _ => h2.2 h1⟩
    · exact ⟨Nat.le_refl _, fun h => h⟩
theorem pqS_le {il : Bool} (a : Nat) : a ≤ (pqS pg np il a).1 ∧ (a ≤ np → (pqS pg np il a).1 ≤ np) := by
  have h2 := pqT_le (pg := pg) (np := np) (il := il) a
  rw [pqS]
  split
  · have := pqL_le (pg := pg) (np := np) (il := il) 160 (pqT pg np il a).1; exact ⟨by omega, fun h => this.2 (h2.2 h)⟩
  · exact h2
theorem pqC_le {il : Bool} (a : Nat) : a < (pqC pg np il a).1 ∧ (a < np → (pqC pg np il a).1 ≤ np) := by
  have h1 := pqS_le (pg := pg) (np := np) (il := il) (a + 1)
  have h2 := pqS_le (pg := pg) (np := np) (il := il) ((pqS pg np il (a + 1)).1 + 1)
  rw [pqC]
  split
  · split
    · next hr =>
      have h3 : (pqS pg np il (a + 1)).1 < np := by
        rw [pqR] at hr
        simp only [Bool.or_eq_true, decide_eq_true_eq] at hr
        rcases hr with (hr | hr) | hr <;> exact msg_lt hr (by decide)
      split
      · split
        · next h4 => have h5 := msg_lt h4 (by decide); refine ⟨?_, fun _ => h5⟩; show a < _ + 1; omega
        · refine ⟨?_, fun _ => h2.2 h3⟩; show a < (pqS pg np il _).1; omega
      · refine ⟨?_, fun _ => h2.2 h3⟩; show a < (pqS pg np il _).1; omega
    · exact ⟨h1.1, h1.2⟩
  · exact ⟨h1.1, h1.2⟩
end PQ


set_option maxHeartbeats 4000000 in
set_option maxRecDepth 100000 in
theorem c_X8_term (l : Launch) (D : va_G) (cy : Nat → ClassId) (ad : Nat → Nat) (Ls : List Nat) (st : XS) (hM : ∀ k, k ∈ LsM → k ∈ Ls) (np : Nat) (hnp160 : np ≤ 160) (hnp : gi st 1 30 = nI np) (a : Nat) (ha : a ≤ np) (dn : Nat) (q : Int32) (al bg mi mk bo ot : Nat → Int32) (hd5 : dn ≤ 5) (lp : Nat → Bool) (hlp : ∀ k, k < dn → al k = bi (lp k)) : xMv l yX8_term cX8_term 2 2 D cy ad Ls (rqS st (nI a, -1, nI dn, q, al, bg, mi, mk, bo, ot)) [.ref (ad 30)] (fun u => u = rqS st (nI (pqT (ga st 32) np (ilF lp dn) a).1, pqE (pqT (ga st 32) np (ilF lp dn) a), nI dn, q, al, bg, mi, mk, bo, ot)) := by
  intro sz
  refine x_of sz (by decide +kernel) (Nat.le_of_ble_eq_true rfl) ?_
  intro p e s m args below meth c ls hx hb hr hlocks C hsz h hl
  have hl : lv_has ls 2 [(0, .ref (ad 30))] := hl
  obtain ⟨H, eH⟩ : ∃ z, z = s.heap := ⟨_, rfl⟩
  obtain ⟨locs, eL⟩ : ∃ z : List Loc, z = [] := ⟨_, rfl⟩
  rw [← eH, ← eL] at h
  rw [← eH, ← eL]
  clear eH eL
  obtain ⟨v, hv⟩ : ∃ v, v = rqS st (nI a, -1, nI dn, q, al, bg, mi, mk, bo, ot) := ⟨_, rfl⟩
  rw [← hv] at h
  refine lv_iconst (v := nI 0) hx hb dX8_term_0 (by decide) ?_
  refine lv_istore_n (lv' := [(1, .int (nI 0)), (0, .ref (ad 30))]) hx hb dX8_term_1 rfl hl (by decide) rfl (fun ls hl => ?_)
  have L2 : ∀ (N2 : Nat) (v9 : XS) (t : Nat) (ht : t ≤ 6) (hpt : pqD (ga st 32) np (6 - t) (a + t) = pqD (ga st 32) np 6 a) (hv9 : v9 = rqS st (nI (a + t), -1, nI dn, q, al, bg, mi, mk, bo, ot)) (hN : 6 - t < N2) (H : Heap) (locs : List Loc) (ls : Array Slot), xH D cy ad Ls (XA ad Ls sz) s v9 H locs → lv_has ls 2 [(0, .ref (ad 30)), (1, .int (nI t))] → W p l e (xR 2) s m args below meth c H locs 0 0 (MQ below (va_Qv (fun u => u = rqS st (nI (pqT (ga st 32) np (ilF lp dn) a).1, pqE (pqT (ga st 32) np (ilF lp dn) a), nI dn, q, al, bg, mi, mk, bo, ot)) (fun u => xPost D cy ad Ls (XA ad Ls sz) u) (XA ad Ls sz)) args s 0 0 (XA ad Ls sz)) (F0 m 2 ls []) := by
    intro N2
    induction N2 with
    | zero => intro v9 t ht hpt hv9 hN; omega
    | succ N2 ih2 =>
      intro v9 t ht hpt hv9 hN H locs ls h hl
      refine lv_iload_n hx hb dX8_term_2 rfl (lv_at hl 1 rfl) ?_
      refine lv_bipush (v := nI 6) hx hb dX8_term_3 (by decide) ?_
      refine x_icmpN_ge (tgt := 38) hx hb dX8_term_5 (by decide) (by omega) (by omega) (fun c5 => ?_) (fun c5 => ?_)
      · have hE : pqD (ga st 32) np 6 a = a + t := by rw [← hpt, show 6 - t = 0 by omega]; rfl
        refine lv_iload_n hx hb dX8_term_38 rfl (lv_at hl 1 rfl) ?_
        refine x_ifN_ne (tgt := 70) hx hb dX8_term_39 (by decide) (by omega) (fun c39 => ?_) (fun c39 => ?_)
        · refine lv_iload_n hx hb dX8_term_70 rfl (lv_at hl 1 rfl) ?_
          refine x_ifN_ne (tgt := 82) hx hb dX8_term_71 (by decide) (by omega) (fun _ => ?_) (fun q => absurd q c39)
          exact x_vret C hr hlocks h (by rw [pqT, hE, if_pos (by omega)]; exact hv9) dX8_term_82
        · subst c39
          rw [Nat.add_zero] at hv9
          refine lv_aload_n hx hb dX8_term_42 rfl (lv_at hl 0 rfl) ?_
          refine lv_aload_n hx hb dX8_term_43 rfl (lv_at hl 0 rfl) ?_
          refine lv_aload_n hx hb dX8_term_44 rfl (lv_at hl 0 rfl) ?_
          refine gf_X8_134 C h (hM 30 (by decide)) rfl dX8_term_45 ?_
          refine x_topi (y := nI a) (by rw [hv9]; exact gi_rm9) ?_
          refine cl_X8_137 C h (hM 30 (by decide)) rfl (c_X8_sign l D cy ad Ls v9 hM np a hnp160 (by omega) (by rw [hv9, gi_rmo (by decide)]; exact hnp)) (x_room (by omega)) ⟨Nat.zero_le _, Nat.zero_le _⟩ hl.1 (Nat.le_of_ble_eq_true rfl) dX8_term_48 (fun r2 u1 H locs hp h => ?_)
          obtain ⟨er2, eu1⟩ := hp; rw [eu1] at h; clear eu1 u1; refine x_topi er2 ?_; clear er2 r2
          refine x_topi (y := msgF (ga st 32) np a) (by rw [hv9, ga_rmo (by decide)]) ?_
          refine cl_X8_145 C h (hM 30 (by decide)) rfl (c_X8_isName l D cy ad Ls v9 hM dn (by omega) (by rw [hv9]; exact gi_rm11) lp (by rw [hv9, ga_rm43]; exact hlp) (msgF (ga st 32) np a)) (x_room (by omega)) ⟨Nat.zero_le _, Nat.zero_le _⟩ hl.1 (Nat.le_of_ble_eq_true rfl) dX8_term_51 (fun r4 u3 H locs hp h => ?_)
          obtain ⟨er4, eu3⟩ := hp; rw [eu3] at h; clear eu3 u3; refine x_topi er4 ?_; clear er4 r4
          refine x_ifb_eq (tgt := 70) hx hb dX8_term_54 (by decide) (fun c54 => ?_) (fun c54 => ?_)
          · refine lv_iload_n hx hb dX8_term_70 rfl (lv_at hl 1 rfl) ?_
            refine x_ifN_ne (tgt := 82) hx hb dX8_term_71 (by decide) (by omega) (fun q => absurd rfl q) (fun _ => ?_)
            refine lv_aload_n hx hb dX8_term_74 rfl (lv_at hl 0 rfl) ?_
            refine lv_aload_n hx hb dX8_term_75 rfl (lv_at hl 0 rfl) ?_
            refine gf_X8_134 C h (hM 30 (by decide)) rfl dX8_term_76 ?_
            refine x_topi (y := nI a) (by rw [hv9]; exact gi_rm9) ?_
            refine pf_X8_148 C h (hM 30 (by decide)) rfl dX8_term_79 (fun H locs u5 eu5 h => ?_)
            rw [hv9, rm_10] at eu5
            exact x_vret C hr hlocks h (by rw [pqT, hE, if_neg (by omega), c54]; exact eu5) dX8_term_82
          · refine lv_aload_n hx hb dX8_term_57 rfl (lv_at hl 0 rfl) ?_
            refine lv_dup hx hb dX8_term_58 rfl ?_
            refine gf_X8_134 C h (hM 30 (by decide)) rfl dX8_term_59 ?_
            refine x_topi (y := nI a) (by rw [hv9]; exact gi_rm9) ?_
            refine lv_iconst (v := nI 1) hx hb dX8_term_62 (by decide) ?_
            refine x_addN hx hb dX8_term_63 ?_
            refine pf_X8_134 C h (hM 30 (by decide)) rfl dX8_term_64 (fun H locs u6 eu6 h => ?_)
            rw [hv9, rm_9] at eu6
            refine lv_goto (tgt := 82) hx hb dX8_term_67 (by decide) ?_
            exact x_vret C hr hlocks h (by rw [pqT, hE, if_neg (by omega), c54]; exact eu6) dX8_term_82
      · refine lv_aload_n hx hb dX8_term_8 rfl (lv_at hl 0 rfl) ?_
        refine lv_aload_n hx hb dX8_term_9 rfl (lv_at hl 0 rfl) ?_
        refine gf_X8_134 C h (hM 30 (by decide)) rfl dX8_term_10 ?_
        refine x_topi (y := nI (a + t)) (by rw [hv9]; exact gi_rm9) ?_
        refine cl_X8_137 C h (hM 30 (by decide)) rfl (c_X8_sign l D cy ad Ls v9 hM np (a + t) hnp160 (by omega) (by rw [hv9, gi_rmo (by decide)]; exact hnp)) (x_room (by omega)) ⟨Nat.zero_le _, Nat.zero_le _⟩ hl.1 (Nat.le_of_ble_eq_true rfl) dX8_term_13 (fun r8 u7 H locs hp h => ?_)
        obtain ⟨er8, eu7⟩ := hp; rw [eu7] at h; clear eu7 u7; refine x_topi er8 ?_; clear er8 r8
        refine x_topi (y := msgF (ga st 32) np (a + t)) (by rw [hv9, ga_rmo (by decide)]) ?_
        refine cl_X8_141 C h (c_X8_isDigit l D cy ad Ls v9 (msgF (ga st 32) np (a + t))) (x_room (by omega)) ⟨Nat.zero_le _, Nat.zero_le _⟩ hl.1 (Nat.le_of_ble_eq_true rfl) dX8_term_16 (fun r10 u9 H locs hp h => ?_)
        obtain ⟨er10, eu9⟩ := hp; rw [eu9] at h; clear eu9 u9; refine x_topi er10 ?_; clear er10 r10
        refine x_ifb_eq (tgt := 38) hx hb dX8_term_19 (by decide) (fun c19 => ?_) (fun c19 => ?_)
        · have hE : pqD (ga st 32) np 6 a = a + t := by rw [← hpt, show 6 - t = (5 - t) + 1 by omega, pqD, c19]; rfl
          refine lv_iload_n hx hb dX8_term_38 rfl (lv_at hl 1 rfl) ?_
          refine x_ifN_ne (tgt := 70) hx hb dX8_term_39 (by decide) (by omega) (fun c39 => ?_) (fun c39 => ?_)
          · refine lv_iload_n hx hb dX8_term_70 rfl (lv_at hl 1 rfl) ?_
            refine x_ifN_ne (tgt := 82) hx hb dX8_term_71 (by decide) (by omega) (fun _ => ?_) (fun q => absurd q c39)
            exact x_vret C hr hlocks h (by rw [pqT, hE, if_pos (by omega)]; exact hv9) dX8_term_82
          · subst c39
            rw [Nat.add_zero] at hv9
            refine lv_aload_n hx hb dX8_term_42 rfl (lv_at hl 0 rfl) ?_
            refine lv_aload_n hx hb dX8_term_43 rfl (lv_at hl 0 rfl) ?_
            refine lv_aload_n hx hb dX8_term_44 rfl (lv_at hl 0 rfl) ?_
            refine gf_X8_134 C h (hM 30 (by decide)) rfl dX8_term_45 ?_
            refine x_topi (y := nI a) (by rw [hv9]; exact gi_rm9) ?_
            refine cl_X8_137 C h (hM 30 (by decide)) rfl (c_X8_sign l D cy ad Ls v9 hM np a hnp160 (by omega) (by rw [hv9, gi_rmo (by decide)]; exact hnp)) (x_room (by omega)) ⟨Nat.zero_le _, Nat.zero_le _⟩ hl.1 (Nat.le_of_ble_eq_true rfl) dX8_term_48 (fun r12 u11 H locs hp h => ?_)
            obtain ⟨er12, eu11⟩ := hp; rw [eu11] at h; clear eu11 u11; refine x_topi er12 ?_; clear er12 r12
            refine x_topi (y := msgF (ga st 32) np a) (by rw [hv9, ga_rmo (by decide)]) ?_
            refine cl_X8_145 C h (hM 30 (by decide)) rfl (c_X8_isName l D cy ad Ls v9 hM dn (by omega) (by rw [hv9]; exact gi_rm11) lp (by rw [hv9, ga_rm43]; exact hlp) (msgF (ga st 32) np a)) (x_room (by omega)) ⟨Nat.zero_le _, Nat.zero_le _⟩ hl.1 (Nat.le_of_ble_eq_true rfl) dX8_term_51 (fun r14 u13 H locs hp h => ?_)
            obtain ⟨er14, eu13⟩ := hp; rw [eu13] at h; clear eu13 u13; refine x_topi er14 ?_; clear er14 r14
            refine x_ifb_eq (tgt := 70) hx hb dX8_term_54 (by decide) (fun c54 => ?_) (fun c54 => ?_)
            · refine lv_iload_n hx hb dX8_term_70 rfl (lv_at hl 1 rfl) ?_
              refine x_ifN_ne (tgt := 82) hx hb dX8_term_71 (by decide) (by omega) (fun q => absurd rfl q) (fun _ => ?_)
              refine lv_aload_n hx hb dX8_term_74 rfl (lv_at hl 0 rfl) ?_
              refine lv_aload_n hx hb dX8_term_75 rfl (lv_at hl 0 rfl) ?_
              refine gf_X8_134 C h (hM 30 (by decide)) rfl dX8_term_76 ?_
              refine x_topi (y := nI a) (by rw [hv9]; exact gi_rm9) ?_
              refine pf_X8_148 C h (hM 30 (by decide)) rfl dX8_term_79 (fun H locs u15 eu15 h => ?_)
              rw [hv9, rm_10] at eu15
              exact x_vret C hr hlocks h (by rw [pqT, hE, if_neg (by omega), c54]; exact eu15) dX8_term_82
            · refine lv_aload_n hx hb dX8_term_57 rfl (lv_at hl 0 rfl) ?_
              refine lv_dup hx hb dX8_term_58 rfl ?_
              refine gf_X8_134 C h (hM 30 (by decide)) rfl dX8_term_59 ?_
              refine x_topi (y := nI a) (by rw [hv9]; exact gi_rm9) ?_
              refine lv_iconst (v := nI 1) hx hb dX8_term_62 (by decide) ?_
              refine x_addN hx hb dX8_term_63 ?_
              refine pf_X8_134 C h (hM 30 (by decide)) rfl dX8_term_64 (fun H locs u16 eu16 h => ?_)
              rw [hv9, rm_9] at eu16
              refine lv_goto (tgt := 82) hx hb dX8_term_67 (by decide) ?_
              exact x_vret C hr hlocks h (by rw [pqT, hE, if_neg (by omega), c54]; exact eu16) dX8_term_82
        · refine lv_aload_n hx hb dX8_term_22 rfl (lv_at hl 0 rfl) ?_
          refine lv_dup hx hb dX8_term_23 rfl ?_
          refine gf_X8_134 C h (hM 30 (by decide)) rfl dX8_term_24 ?_
          refine x_topi (y := nI (a + t)) (by rw [hv9]; exact gi_rm9) ?_
          refine lv_iconst (v := nI 1) hx hb dX8_term_27 (by decide) ?_
          refine x_addN hx hb dX8_term_28 ?_
          refine pf_X8_134 C h (hM 30 (by decide)) rfl dX8_term_29 (fun H locs u17 eu17 h => ?_)
          rw [hv9, rm_9] at eu17
          refine lv_iinc (v := nI (t + 1)) (lv' := [(1, .int (nI (t + 1))), (0, .ref (ad 30))]) hx hb dX8_term_32 hl (k := 1) rfl (nI_add _ _) (by decide) rfl (fun ls hl => ?_)
          refine lv_goto (tgt := 2) hx hb dX8_term_35 (by decide) ?_
          exact ih2 u17 (t + 1) (by omega) (by rw [← hpt, show 6 - t = (6 - (t + 1)) + 1 by omega, pqD, c19]; rfl) eu17 (by omega) H locs ls h (lv_sub hl [1, 0] rfl)
  exact L2 7 v 0 (by omega) rfl hv (by omega) H locs ls h (lv_sub hl [1, 0] rfl)

set_option maxHeartbeats 4000000 in
set_option maxRecDepth 100000 in
theorem c_X8_sum (l : Launch) (D : va_G) (cy : Nat → ClassId) (ad : Nat → Nat) (Ls : List Nat) (st : XS) (hM : ∀ k, k ∈ LsM → k ∈ Ls) (np : Nat) (hnp160 : np ≤ 160) (hnp : gi st 1 30 = nI np) (a : Nat) (ha : a ≤ np) (dn : Nat) (q : Int32) (al bg mi mk bo ot : Nat → Int32) (hd5 : dn ≤ 5) (lp : Nat → Bool) (hlp : ∀ k, k < dn → al k = bi (lp k)) : xMv l yX8_sum cX8_sum 1 3 D cy ad Ls (rqS st (nI a, -1, nI dn, q, al, bg, mi, mk, bo, ot)) [.ref (ad 30)] (fun u => u = rqS st (nI (pqS (ga st 32) np (ilF lp dn) a).1, pqE (pqS (ga st 32) np (ilF lp dn) a), nI dn, q, al, bg, mi, mk, bo, ot)) := by
  intro sz
  refine x_of sz (by decide +kernel) (Nat.le_of_ble_eq_true rfl) ?_
  intro p e s m args below meth c ls hx hb hr hlocks C hsz h hl
  have hl : lv_has ls 1 [(0, .ref (ad 30))] := hl
  obtain ⟨H, eH⟩ : ∃ z, z = s.heap := ⟨_, rfl⟩
  obtain ⟨locs, eL⟩ : ∃ z : List Loc, z = [] := ⟨_, rfl⟩
  rw [← eH, ← eL] at h
  rw [← eH, ← eL]
  clear eH eL
  obtain ⟨v, hv⟩ : ∃ v, v = rqS st (nI a, -1, nI dn, q, al, bg, mi, mk, bo, ot) := ⟨_, rfl⟩
  rw [← hv] at h
  refine lv_aload_n hx hb dX8_sum_0 rfl (lv_at hl 0 rfl) ?_
  rw [hv] at h
  refine cl_X8_151 C h (hM 30 (by decide)) rfl (c_X8_term l D cy ad Ls st hM np hnp160 hnp a (by omega) dn q al bg mi mk bo ot hd5 lp hlp) (x_room (by omega)) ⟨Nat.zero_le _, Nat.zero_le _⟩ hl.1 (Nat.le_of_ble_eq_true rfl) dX8_sum_1 (fun u1 H locs hp h => ?_)
  have Eu1 := hp; clear hp
  have L4 : ∀ (N4 : Nat) (v9 : XS) (a9 : Nat) (o9 : Bool) (n9 : Nat) (ha9 : a9 ≤ np) (hn9 : np - a9 ≤ n9) (hR : pqS (ga st 32) np (ilF lp dn) a = if o9 then pqL (ga st 32) np (ilF lp dn) n9 a9 else (a9, false)) (hv9 : v9 = rqS st (nI a9, pqE (a9, o9), nI dn, q, al, bg, mi, mk, bo, ot)) (hN : np - a9 < N4) (H : Heap) (locs : List Loc) (ls : Array Slot), xH D cy ad Ls (XA ad Ls sz) s v9 H locs → lv_has ls 1 [(0, .ref (ad 30))] → W p l e (xR 3) s m args below meth c H locs 0 0 (MQ below (va_Qv (fun u => u = rqS st (nI (pqS (ga st 32) np (ilF lp dn) a).1, pqE (pqS (ga st 32) np (ilF lp dn) a), nI dn, q, al, bg, mi, mk, bo, ot)) (fun u => xPost D cy ad Ls (XA ad Ls sz) u) (XA ad Ls sz)) args s 0 0 (XA ad Ls sz)) (F0 m 4 ls []) := by
    intro N4
    induction N4 with
    | zero => intro v9 a9 o9 n9 ha9 hn9 hR hv9 hN; omega
    | succ N4 ih4 =>
      intro v9 a9 o9 n9 ha9 hn9 hR hv9 hN H locs ls h hl
      refine lv_aload_n hx hb dX8_sum_4 rfl (lv_at hl 0 rfl) ?_
      refine gf_X8_148 C h (hM 30 (by decide)) rfl dX8_sum_5 ?_
      refine x_topi (y := pqE (a9, o9)) (by rw [hv9]; exact gi_rm10) ?_
      refine lv_iconst (v := (-1)) hx hb dX8_sum_8 (by decide) ?_
      rcases o9 with _ | _
      · refine lv_icmp_ne (tgt := 55) hx hb dX8_sum_9 (by decide) (fun _ => ?_) (fun q => absurd q (nI_ne1 (by omega)))
        replace hv9 : v9 = rqS st (nI a9, nI a9, nI dn, q, al, bg, mi, mk, bo, ot) := hv9
        exact x_vret C hr hlocks h (by rw [hR]; exact hv9) dX8_sum_55
      · refine lv_icmp_ne (tgt := 55) hx hb dX8_sum_9 (by decide) (fun q => absurd rfl q) (fun _ => ?_)
        replace hv9 : v9 = rqS st (nI a9, -1, nI dn, q, al, bg, mi, mk, bo, ot) := hv9
        refine lv_aload_n hx hb dX8_sum_12 rfl (lv_at hl 0 rfl) ?_
        refine lv_aload_n hx hb dX8_sum_13 rfl (lv_at hl 0 rfl) ?_
        refine gf_X8_134 C h (hM 30 (by decide)) rfl dX8_sum_14 ?_
        refine x_topi (y := nI a9) (by rw [hv9]; exact gi_rm9) ?_
        refine cl_X8_137 C h (hM 30 (by decide)) rfl (c_X8_sign l D cy ad Ls v9 hM np a9 hnp160 (by omega) (by rw [hv9, gi_rmo (by decide)]; exact hnp)) (x_room (by omega)) ⟨Nat.zero_le _, Nat.zero_le _⟩ hl.1 (Nat.le_of_ble_eq_true rfl) dX8_sum_17 (fun r4 u3 H locs hp h => ?_)
        obtain ⟨er4, eu3⟩ := hp; rw [eu3] at h; clear eu3 u3; refine x_topi er4 ?_; clear er4 r4
        refine x_topi (y := msgF (ga st 32) np a9) (by rw [hv9, ga_rmo (by decide)]) ?_
        refine lv_bipush (v := nI 43) hx hb dX8_sum_20 (by decide) ?_
        refine lv_icmp_eq (tgt := 38) hx hb dX8_sum_22 (by decide) (fun c22 => ?_) (fun c22 => ?_)
        · have hlt : a9 < np := msg_lt c22 (by decide)
          obtain ⟨n8, rfl⟩ : ∃ n8, n9 = n8 + 1 := ⟨n9 - 1, by omega⟩
          have hT := pqT_le (pg := (ga st 32)) (np := np) (il := ilF lp dn) (a9 + 1)
          refine lv_aload_n hx hb dX8_sum_38 rfl (lv_at hl 0 rfl) ?_
          refine lv_dup hx hb dX8_sum_39 rfl ?_
          refine gf_X8_134 C h (hM 30 (by decide)) rfl dX8_sum_40 ?_
          refine x_topi (y := nI a9) (by rw [hv9]; exact gi_rm9) ?_
          refine lv_iconst (v := nI 1) hx hb dX8_sum_43 (by decide) ?_
          refine x_addN hx hb dX8_sum_44 ?_
          refine pf_X8_134 C h (hM 30 (by decide)) rfl dX8_sum_45 (fun H locs u5 eu5 h => ?_)
          rw [hv9, rm_9] at eu5
          refine lv_aload_n hx hb dX8_sum_48 rfl (lv_at hl 0 rfl) ?_
          rw [eu5] at h
          refine cl_X8_151 C h (hM 30 (by decide)) rfl (c_X8_term l D cy ad Ls st hM np hnp160 hnp (a9 + 1) (by omega) dn q al bg mi mk bo ot hd5 lp hlp) (x_room (by omega)) ⟨Nat.zero_le _, Nat.zero_le _⟩ hl.1 (Nat.le_of_ble_eq_true rfl) dX8_sum_49 (fun u6 H locs hp h => ?_)
          have Eu6 := hp; clear hp
          refine lv_goto (tgt := 4) hx hb dX8_sum_52 (by decide) ?_
          exact ih4 u6 (pqT (ga st 32) np (ilF lp dn) (a9 + 1)).1 (pqT (ga st 32) np (ilF lp dn) (a9 + 1)).2 n8 (hT.2 (by omega)) (by omega) (by rw [hR]; show pqL _ _ _ (n8 + 1) a9 = _; rw [pqL, if_pos (Or.inl c22)]) Eu6 (by omega) H locs ls h (lv_sub hl [0] rfl)
        · refine lv_aload_n hx hb dX8_sum_25 rfl (lv_at hl 0 rfl) ?_
          refine lv_aload_n hx hb dX8_sum_26 rfl (lv_at hl 0 rfl) ?_
          refine gf_X8_134 C h (hM 30 (by decide)) rfl dX8_sum_27 ?_
          refine x_topi (y := nI a9) (by rw [hv9]; exact gi_rm9) ?_
          refine cl_X8_137 C h (hM 30 (by decide)) rfl (c_X8_sign l D cy ad Ls v9 hM np a9 hnp160 (by omega) (by rw [hv9, gi_rmo (by decide)]; exact hnp)) (x_room (by omega)) ⟨Nat.zero_le _, Nat.zero_le _⟩ hl.1 (Nat.le_of_ble_eq_true rfl) dX8_sum_30 (fun r9 u8 H locs hp h => ?_)
          obtain ⟨er9, eu8⟩ := hp; rw [eu8] at h; clear eu8 u8; refine x_topi er9 ?_; clear er9 r9
          refine x_topi (y := msgF (ga st 32) np a9) (by rw [hv9, ga_rmo (by decide)]) ?_
          refine lv_bipush (v := nI 45) hx hb dX8_sum_33 (by decide) ?_
          refine lv_icmp_ne (tgt := 55) hx hb dX8_sum_35 (by decide) (fun c35 => ?_) (fun c35 => ?_)
          · exact x_vret C hr hlocks h (by rw [hR, show pqL (ga st 32) np (ilF lp dn) n9 a9 = (a9, true) by (rcases n9 with _ | n8; rfl; rw [pqL, if_neg (fun q => q.elim c22 c35)])]; exact hv9) dX8_sum_55
          · have hlt : a9 < np := msg_lt c35 (by decide)
            obtain ⟨n8, rfl⟩ : ∃ n8, n9 = n8 + 1 := ⟨n9 - 1, by omega⟩
            have hT := pqT_le (pg := (ga st 32)) (np := np) (il := ilF lp dn) (a9 + 1)
            refine lv_aload_n hx hb dX8_sum_38 rfl (lv_at hl 0 rfl) ?_
            refine lv_dup hx hb dX8_sum_39 rfl ?_
            refine gf_X8_134 C h (hM 30 (by decide)) rfl dX8_sum_40 ?_
            refine x_topi (y := nI a9) (by rw [hv9]; exact gi_rm9) ?_
            refine lv_iconst (v := nI 1) hx hb dX8_sum_43 (by decide) ?_
            refine x_addN hx hb dX8_sum_44 ?_
            refine pf_X8_134 C h (hM 30 (by decide)) rfl dX8_sum_45 (fun H locs u10 eu10 h => ?_)
            rw [hv9, rm_9] at eu10
            refine lv_aload_n hx hb dX8_sum_48 rfl (lv_at hl 0 rfl) ?_
            rw [eu10] at h
            refine cl_X8_151 C h (hM 30 (by decide)) rfl (c_X8_term l D cy ad Ls st hM np hnp160 hnp (a9 + 1) (by omega) dn q al bg mi mk bo ot hd5 lp hlp) (x_room (by omega)) ⟨Nat.zero_le _, Nat.zero_le _⟩ hl.1 (Nat.le_of_ble_eq_true rfl) dX8_sum_49 (fun u11 H locs hp h => ?_)
            have Eu11 := hp; clear hp
            refine lv_goto (tgt := 4) hx hb dX8_sum_52 (by decide) ?_
            exact ih4 u11 (pqT (ga st 32) np (ilF lp dn) (a9 + 1)).1 (pqT (ga st 32) np (ilF lp dn) (a9 + 1)).2 n8 (hT.2 (by omega)) (by omega) (by rw [hR]; show pqL _ _ _ (n8 + 1) a9 = _; rw [pqL, if_pos (Or.inr c35)]) Eu11 (by omega) H locs ls h (lv_sub hl [0] rfl)
  exact L4 (np + 1) u1 (pqT (ga st 32) np (ilF lp dn) a).1 (pqT (ga st 32) np (ilF lp dn) a).2 160 ((pqT_le a).2 ha) (by omega) rfl Eu1 (by omega) H locs ls h (lv_sub hl [0] rfl)

set_option maxHeartbeats 4000000 in
set_option maxRecDepth 100000 in
theorem c_X8_opens (l : Launch) (D : va_G) (cy : Nat → ClassId) (ad : Nat → Nat) (Ls : List Nat) (st : XS) (hM : ∀ k, k ∈ LsM → k ∈ Ls) (A9 F9 : Int32) (dn : Nat) (hdn : dn < 5) (q : Int32) (al bg mi mk bo ot : Nat → Int32) (is : Bool) (b9 : Int32) : xMv l yX8_opens cX8_opens 3 0 D cy ad Ls (rqS st (A9, F9, nI dn, q, al, bg, mi, mk, bo, ot)) [.ref (ad 30), .int (bi is), .int b9] (fun u => u = rqS st (A9, F9, nI (dn + 1), q + nI 1, upd al dn (bi is), upd bg dn b9, upd mi dn (-1), mk, bo, ot)) := by
  intro sz
  refine x_of sz (by decide +kernel) (Nat.le_of_ble_eq_true rfl) ?_
  intro p e s m args below meth c ls hx hb hr hlocks C hsz h hl
  have hl : lv_has ls 3 [(0, .ref (ad 30)), (1, .int (bi is)), (2, .int b9)] := hl
  obtain ⟨H, eH⟩ : ∃ z, z = s.heap := ⟨_, rfl⟩
  obtain ⟨locs, eL⟩ : ∃ z : List Loc, z = [] := ⟨_, rfl⟩
  rw [← eH, ← eL] at h
  rw [← eH, ← eL]
  clear eH eL
  obtain ⟨v, hv⟩ : ∃ v, v = rqS st (A9, F9, nI dn, q, al, bg, mi, mk, bo, ot) := ⟨_, rfl⟩
  rw [← hv] at h
  refine lv_aload_n hx hb dX8_opens_0 rfl (lv_at hl 0 rfl) ?_
  refine gf_X8_28 C h (hM 30 (by decide)) rfl (k2 := 43) rfl dX8_opens_1 ?_
  refine lv_aload_n hx hb dX8_opens_4 rfl (lv_at hl 0 rfl) ?_
  refine gf_X8_127 C h (hM 30 (by decide)) rfl dX8_opens_5 ?_
  refine x_topi (y := nI dn) (by rw [hv]; exact gi_rm11) ?_
  refine lv_iload_n hx hb dX8_opens_8 rfl (lv_at hl 1 rfl) ?_
  refine x_zast C h (hM 43 (by decide)) rfl dn (by omega) rfl (bi_nar _) dX8_opens_9 (fun H locs u1 eu1 h => ?_)
  rw [hv, ga_rm43, rm_43] at eu1
  refine lv_aload_n hx hb dX8_opens_10 rfl (lv_at hl 0 rfl) ?_
  refine gf_X8_32 C h (hM 30 (by decide)) rfl (k2 := 44) rfl dX8_opens_11 ?_
  refine lv_aload_n hx hb dX8_opens_14 rfl (lv_at hl 0 rfl) ?_
  refine gf_X8_127 C h (hM 30 (by decide)) rfl dX8_opens_15 ?_
  refine x_topi (y := nI dn) (by rw [eu1]; exact gi_rm11) ?_
  refine lv_iload_n hx hb dX8_opens_18 rfl (lv_at hl 2 rfl) ?_
  refine x_ast C h (hM 44 (by decide)) (n := 5) rfl dn (by omega) (by decide) rfl dX8_opens_19 (fun H locs u2 eu2 h => ?_)
  rw [eu1, ga_rm44, rm_44] at eu2
  refine lv_aload_n hx hb dX8_opens_20 rfl (lv_at hl 0 rfl) ?_
  refine gf_X8_35 C h (hM 30 (by decide)) rfl (k2 := 45) rfl dX8_opens_21 ?_
  refine lv_aload_n hx hb dX8_opens_24 rfl (lv_at hl 0 rfl) ?_
  refine gf_X8_127 C h (hM 30 (by decide)) rfl dX8_opens_25 ?_
  refine x_topi (y := nI dn) (by rw [eu2]; exact gi_rm11) ?_
  refine lv_iconst (v := (-1)) hx hb dX8_opens_28 (by decide) ?_
  refine x_ast C h (hM 45 (by decide)) (n := 5) rfl dn (by omega) (by decide) rfl dX8_opens_29 (fun H locs u3 eu3 h => ?_)
  rw [eu2, ga_rm45, rm_45] at eu3
  refine lv_aload_n hx hb dX8_opens_30 rfl (lv_at hl 0 rfl) ?_
  refine lv_dup hx hb dX8_opens_31 rfl ?_
  refine gf_X8_127 C h (hM 30 (by decide)) rfl dX8_opens_32 ?_
  refine x_topi (y := nI dn) (by rw [eu3]; exact gi_rm11) ?_
  refine lv_iconst (v := nI 1) hx hb dX8_opens_35 (by decide) ?_
  refine x_addN hx hb dX8_opens_36 ?_
  refine pf_X8_127 C h (hM 30 (by decide)) rfl dX8_opens_37 (fun H locs u4 eu4 h => ?_)
  rw [eu3, rm_11] at eu4
  refine lv_aload_n hx hb dX8_opens_40 rfl (lv_at hl 0 rfl) ?_
  refine lv_dup hx hb dX8_opens_41 rfl ?_
  refine gf_X8_154 C h (hM 30 (by decide)) rfl dX8_opens_42 ?_
  refine x_topi (y := q) (by rw [eu4]; exact gi_rm12) ?_
  refine lv_iconst (v := nI 1) hx hb dX8_opens_45 (by decide) ?_
  refine lv_iadd hx hb dX8_opens_46 ?_
  refine pf_X8_154 C h (hM 30 (by decide)) rfl dX8_opens_47 (fun H locs u5 eu5 h => ?_)
  rw [eu4, rm_12] at eu5
  exact x_vret C hr hlocks h eu5 dX8_opens_50

set_option maxHeartbeats 4000000 in
set_option maxRecDepth 100000 in
theorem c_X8_choice (l : Launch) (D : va_G) (cy : Nat → ClassId) (ad : Nat → Nat) (Ls : List Nat) (st : XS) (hM : ∀ k, k ∈ LsM → k ∈ Ls) (np : Nat) (hnp160 : np ≤ 160) (hnp : gi st 1 30 = nI np) (a : Nat) (ha : a < np) (dn : Nat) (hd4 : dn < 5) (q : Int32) (al bg mi mk bo ot : Nat → Int32) (hd5 : dn ≤ 5) (lp : Nat → Bool) (hlp : ∀ k, k < dn → al k = bi (lp k)) (b9 : Int32) : xMv l yX8_choice cX8_choice 2 4 D cy ad Ls (rqS st (nI a, -1, nI dn, q, al, bg, mi, mk, bo, ot)) [.ref (ad 30), .int b9] (fun u => u = rqS st (if (pqC (ga st 32) np (ilF lp dn) a).2 then (nI (pqC (ga st 32) np (ilF lp dn) a).1, -1, nI (dn + 1), q + nI 1, upd al dn (bi false), upd bg dn b9, upd mi dn (-1), mk, bo, ot) else (nI (pqC (ga st 32) np (ilF lp dn) a).1, nI (pqC (ga st 32) np (ilF lp dn) a).1, nI dn, q, al, bg, mi, mk, bo, ot))) := by
  intro sz
  refine x_of sz (by decide +kernel) (Nat.le_of_ble_eq_true rfl) ?_
  intro p e s m args below meth c ls hx hb hr hlocks C hsz h hl
  have hl : lv_has ls 2 [(0, .ref (ad 30)), (1, .int b9)] := hl
  obtain ⟨H, eH⟩ : ∃ z, z = s.heap := ⟨_, rfl⟩
  obtain ⟨locs, eL⟩ : ∃ z : List Loc, z = [] := ⟨_, rfl⟩
  rw [← eH, ← eL] at h
  rw [← eH, ← eL]
  clear eH eL
  obtain ⟨v, hv⟩ : ∃ v, v = rqS st (nI a, -1, nI dn, q, al, bg, mi, mk, bo, ot) := ⟨_, rfl⟩
  rw [← hv] at h
  refine lv_aload_n hx hb dX8_choice_0 rfl (lv_at hl 0 rfl) ?_
  refine lv_dup hx hb dX8_choice_1 rfl ?_
  refine gf_X8_134 C h (hM 30 (by decide)) rfl dX8_choice_2 ?_
  refine x_topi (y := nI a) (by rw [hv]; exact gi_rm9) ?_
  refine lv_iconst (v := nI 1) hx hb dX8_choice_5 (by decide) ?_
  refine x_addN hx hb dX8_choice_6 ?_
  refine pf_X8_134 C h (hM 30 (by decide)) rfl dX8_choice_7 (fun H locs u1 eu1 h => ?_)
  rw [hv, rm_9] at eu1
  refine lv_aload_n hx hb dX8_choice_10 rfl (lv_at hl 0 rfl) ?_
  rw [eu1] at h
  refine cl_X8_157 C h (hM 30 (by decide)) rfl (c_X8_sum l D cy ad Ls st hM np hnp160 hnp (a + 1) (by omega) dn q al bg mi mk bo ot hd5 lp hlp) (x_room (by omega)) ⟨Nat.zero_le _, Nat.zero_le _⟩ hl.1 (Nat.le_of_ble_eq_true rfl) dX8_choice_11 (fun u2 H locs hp h => ?_)
  have Eu2 := hp; clear hp
  obtain ⟨s11, s12⟩ := pqS_le (pg := (ga st 32)) (np := np) (il := ilF lp dn) (a + 1)
  replace s12 := s12 (by omega)
  rcases s1 : pqS (ga st 32) np (ilF lp dn) (a + 1) with ⟨s1a, _ | _⟩
  · rw [s1] at s11 s12 Eu2
    change _ ≤ s1a at s11; change s1a ≤ np at s12
    replace Eu2 : u2 = rqS st (nI s1a, nI s1a, nI dn, q, al, bg, mi, mk, bo, ot) := Eu2
    refine lv_aload_n hx hb dX8_choice_14 rfl (lv_at hl 0 rfl) ?_
    refine lv_aload_n hx hb dX8_choice_15 rfl (lv_at hl 0 rfl) ?_
    refine lv_aload_n hx hb dX8_choice_16 rfl (lv_at hl 0 rfl) ?_
    refine gf_X8_134 C h (hM 30 (by decide)) rfl dX8_choice_17 ?_
    refine x_topi (y := nI s1a) (by rw [Eu2]; exact gi_rm9) ?_
    refine cl_X8_137 C h (hM 30 (by decide)) rfl (c_X8_sign l D cy ad Ls u2 hM np s1a hnp160 (by omega) (by rw [Eu2, gi_rmo (by decide)]; exact hnp)) (x_room (by omega)) ⟨Nat.zero_le _, Nat.zero_le _⟩ hl.1 (Nat.le_of_ble_eq_true rfl) dX8_choice_20 (fun r5 u4 H locs hp h => ?_)
    obtain ⟨er5, eu4⟩ := hp; rw [eu4] at h; clear eu4 u4; refine x_topi er5 ?_; clear er5 r5
    refine x_topi (y := msgF (ga st 32) np s1a) (by rw [Eu2, ga_rmo (by decide)]) ?_
    refine lv_bipush (v := nI 60) hx hb dX8_choice_23 (by decide) ?_
    refine lv_icmp_eq (tgt := 54) hx hb dX8_choice_25 (by decide) (fun c25 => ?_) (fun c25 => ?_)
    · refine lv_iconst (v := nI 1) hx hb dX8_choice_54 (by decide) ?_
      refine x_topi (y := bi true) rfl ?_
      refine lv_goto (tgt := 59) hx hb dX8_choice_55 (by decide) ?_
      refine cl_X8_160 C h (hM 30 (by decide)) rfl (c_X8_expects l D cy ad Ls u2 hM (nI s1a) (nI s1a) (by rw [Eu2]; exact gi_rm10) (by rw [Eu2]; exact gi_rm9) true) (x_room (by omega)) ⟨Nat.zero_le _, Nat.zero_le _⟩ hl.1 (Nat.le_of_ble_eq_true rfl) dX8_choice_59 (fun u6 H locs hp h => ?_)
      have Eu6 := hp; clear hp
      rw [if_neg (fun q => absurd q.2 (by decide)), Eu2] at Eu6
      refine lv_aload_n hx hb dX8_choice_62 rfl (lv_at hl 0 rfl) ?_
      refine gf_X8_148 C h (hM 30 (by decide)) rfl dX8_choice_63 ?_
      refine x_topi (y := nI s1a) (by rw [Eu6]; exact gi_rm10) ?_
      refine lv_iconst (v := (-1)) hx hb dX8_choice_66 (by decide) ?_
      refine lv_icmp_ne (tgt := 84) hx hb dX8_choice_67 (by decide) (fun _ => ?_) (fun q => absurd q (nI_ne1 (by omega)))
      refine lv_aload_n hx hb dX8_choice_84 rfl (lv_at hl 0 rfl) ?_
      refine lv_aload_n hx hb dX8_choice_85 rfl (lv_at hl 0 rfl) ?_
      refine lv_aload_n hx hb dX8_choice_86 rfl (lv_at hl 0 rfl) ?_
      refine gf_X8_134 C h (hM 30 (by decide)) rfl dX8_choice_87 ?_
      refine x_topi (y := nI s1a) (by rw [Eu6]; exact gi_rm9) ?_
      refine cl_X8_137 C h (hM 30 (by decide)) rfl (c_X8_sign l D cy ad Ls u6 hM np s1a hnp160 (by omega) (by rw [Eu6, gi_rmo (by decide)]; exact hnp)) (x_room (by omega)) ⟨Nat.zero_le _, Nat.zero_le _⟩ hl.1 (Nat.le_of_ble_eq_true rfl) dX8_choice_90 (fun r9 u8 H locs hp h => ?_)
      obtain ⟨er9, eu8⟩ := hp; rw [eu8] at h; clear eu8 u8; refine x_topi er9 ?_; clear er9 r9
      refine x_topi (y := msgF (ga st 32) np s1a) (by rw [Eu6, ga_rmo (by decide)]) ?_
      refine lv_bipush (v := nI 58) hx hb dX8_choice_93 (by decide) ?_
      refine lv_icmp_ne (tgt := 102) hx hb dX8_choice_95 (by decide) (fun c95 => ?_) (fun c95 => ?_)
      · refine lv_iconst (v := nI 0) hx hb dX8_choice_102 (by decide) ?_
        refine x_topi (y := bi false) rfl ?_
        refine cl_X8_160 C h (hM 30 (by decide)) rfl (c_X8_expects l D cy ad Ls u6 hM (nI s1a) (nI s1a) (by rw [Eu6]; exact gi_rm10) (by rw [Eu6]; exact gi_rm9) false) (x_room (by omega)) ⟨Nat.zero_le _, Nat.zero_le _⟩ hl.1 (Nat.le_of_ble_eq_true rfl) dX8_choice_103 (fun u10 H locs hp h => ?_)
        have Eu10 := hp; clear hp
        rw [if_neg (fun q => nI_ne1 (by omega) q.1), Eu6] at Eu10
        refine lv_aload_n hx hb dX8_choice_106 rfl (lv_at hl 0 rfl) ?_
        refine gf_X8_148 C h (hM 30 (by decide)) rfl dX8_choice_107 ?_
        refine x_topi (y := nI s1a) (by rw [Eu10]; exact gi_rm10) ?_
        refine lv_iconst (v := (-1)) hx hb dX8_choice_110 (by decide) ?_
        refine lv_icmp_ne (tgt := 130) hx hb dX8_choice_111 (by decide) (fun _ => ?_) (fun q => absurd q (nI_ne1 (by omega)))
        exact x_vret C hr hlocks h (by rw [show pqC (ga st 32) np (ilF lp dn) a = (s1a, false) by (rw [pqC, s1]; rfl)]; exact Eu10) dX8_choice_130
      · refine lv_iconst (v := nI 1) hx hb dX8_choice_98 (by decide) ?_
        refine x_topi (y := bi true) rfl ?_
        refine lv_goto (tgt := 103) hx hb dX8_choice_99 (by decide) ?_
        refine cl_X8_160 C h (hM 30 (by decide)) rfl (c_X8_expects l D cy ad Ls u6 hM (nI s1a) (nI s1a) (by rw [Eu6]; exact gi_rm10) (by rw [Eu6]; exact gi_rm9) true) (x_room (by omega)) ⟨Nat.zero_le _, Nat.zero_le _⟩ hl.1 (Nat.le_of_ble_eq_true rfl) dX8_choice_103 (fun u12 H locs hp h => ?_)
        have Eu12 := hp; clear hp
        rw [if_neg (fun q => absurd q.2 (by decide)), Eu6] at Eu12
        refine lv_aload_n hx hb dX8_choice_106 rfl (lv_at hl 0 rfl) ?_
        refine gf_X8_148 C h (hM 30 (by decide)) rfl dX8_choice_107 ?_
        refine x_topi (y := nI s1a) (by rw [Eu12]; exact gi_rm10) ?_
        refine lv_iconst (v := (-1)) hx hb dX8_choice_110 (by decide) ?_
        refine lv_icmp_ne (tgt := 130) hx hb dX8_choice_111 (by decide) (fun _ => ?_) (fun q => absurd q (nI_ne1 (by omega)))
        exact x_vret C hr hlocks h (by rw [show pqC (ga st 32) np (ilF lp dn) a = (s1a, false) by (rw [pqC, s1]; rfl)]; exact Eu12) dX8_choice_130
    · refine lv_aload_n hx hb dX8_choice_28 rfl (lv_at hl 0 rfl) ?_
      refine lv_aload_n hx hb dX8_choice_29 rfl (lv_at hl 0 rfl) ?_
      refine gf_X8_134 C h (hM 30 (by decide)) rfl dX8_choice_30 ?_
      refine x_topi (y := nI s1a) (by rw [Eu2]; exact gi_rm9) ?_
      refine cl_X8_137 C h (hM 30 (by decide)) rfl (c_X8_sign l D cy ad Ls u2 hM np s1a hnp160 (by omega) (by rw [Eu2, gi_rmo (by decide)]; exact hnp)) (x_room (by omega)) ⟨Nat.zero_le _, Nat.zero_le _⟩ hl.1 (Nat.le_of_ble_eq_true rfl) dX8_choice_33 (fun r15 u14 H locs hp h => ?_)
      obtain ⟨er15, eu14⟩ := hp; rw [eu14] at h; clear eu14 u14; refine x_topi er15 ?_; clear er15 r15
      refine x_topi (y := msgF (ga st 32) np s1a) (by rw [Eu2, ga_rmo (by decide)]) ?_
      refine lv_bipush (v := nI 62) hx hb dX8_choice_36 (by decide) ?_
      refine lv_icmp_eq (tgt := 54) hx hb dX8_choice_38 (by decide) (fun c38 => ?_) (fun c38 => ?_)
      · refine lv_iconst (v := nI 1) hx hb dX8_choice_54 (by decide) ?_
        refine x_topi (y := bi true) rfl ?_
        refine lv_goto (tgt := 59) hx hb dX8_choice_55 (by decide) ?_
        refine cl_X8_160 C h (hM 30 (by decide)) rfl (c_X8_expects l D cy ad Ls u2 hM (nI s1a) (nI s1a) (by rw [Eu2]; exact gi_rm10) (by rw [Eu2]; exact gi_rm9) true) (x_room (by omega)) ⟨Nat.zero_le _, Nat.zero_le _⟩ hl.1 (Nat.le_of_ble_eq_true rfl) dX8_choice_59 (fun u16 H locs hp h => ?_)
        have Eu16 := hp; clear hp
        rw [if_neg (fun q => absurd q.2 (by decide)), Eu2] at Eu16
        refine lv_aload_n hx hb dX8_choice_62 rfl (lv_at hl 0 rfl) ?_
        refine gf_X8_148 C h (hM 30 (by decide)) rfl dX8_choice_63 ?_
        refine x_topi (y := nI s1a) (by rw [Eu16]; exact gi_rm10) ?_
        refine lv_iconst (v := (-1)) hx hb dX8_choice_66 (by decide) ?_
        refine lv_icmp_ne (tgt := 84) hx hb dX8_choice_67 (by decide) (fun _ => ?_) (fun q => absurd q (nI_ne1 (by omega)))
        refine lv_aload_n hx hb dX8_choice_84 rfl (lv_at hl 0 rfl) ?_
        refine lv_aload_n hx hb dX8_choice_85 rfl (lv_at hl 0 rfl) ?_
        refine lv_aload_n hx hb dX8_choice_86 rfl (lv_at hl 0 rfl) ?_
        refine gf_X8_134 C h (hM 30 (by decide)) rfl dX8_choice_87 ?_
        refine x_topi (y := nI s1a) (by rw [Eu16]; exact gi_rm9) ?_
        refine cl_X8_137 C h (hM 30 (by decide)) rfl (c_X8_sign l D cy ad Ls u16 hM np s1a hnp160 (by omega) (by rw [Eu16, gi_rmo (by decide)]; exact hnp)) (x_room (by omega)) ⟨Nat.zero_le _, Nat.zero_le _⟩ hl.1 (Nat.le_of_ble_eq_true rfl) dX8_choice_90 (fun r19 u18 H locs hp h => ?_)
        obtain ⟨er19, eu18⟩ := hp; rw [eu18] at h; clear eu18 u18; refine x_topi er19 ?_; clear er19 r19
        refine x_topi (y := msgF (ga st 32) np s1a) (by rw [Eu16, ga_rmo (by decide)]) ?_
        refine lv_bipush (v := nI 58) hx hb dX8_choice_93 (by decide) ?_
        refine lv_icmp_ne (tgt := 102) hx hb dX8_choice_95 (by decide) (fun c95 => ?_) (fun c95 => ?_)
        · refine lv_iconst (v := nI 0) hx hb dX8_choice_102 (by decide) ?_
          refine x_topi (y := bi false) rfl ?_
          refine cl_X8_160 C h (hM 30 (by decide)) rfl (c_X8_expects l D cy ad Ls u16 hM (nI s1a) (nI s1a) (by rw [Eu16]; exact gi_rm10) (by rw [Eu16]; exact gi_rm9) false) (x_room (by omega)) ⟨Nat.zero_le _, Nat.zero_le _⟩ hl.1 (Nat.le_of_ble_eq_true rfl) dX8_choice_103 (fun u20 H locs hp h => ?_)
          have Eu20 := hp; clear hp
          rw [if_neg (fun q => nI_ne1 (by omega) q.1), Eu16] at Eu20
          refine lv_aload_n hx hb dX8_choice_106 rfl (lv_at hl 0 rfl) ?_
          refine gf_X8_148 C h (hM 30 (by decide)) rfl dX8_choice_107 ?_
          refine x_topi (y := nI s1a) (by rw [Eu20]; exact gi_rm10) ?_
          refine lv_iconst (v := (-1)) hx hb dX8_choice_110 (by decide) ?_
          refine lv_icmp_ne (tgt := 130) hx hb dX8_choice_111 (by decide) (fun _ => ?_) (fun q => absurd q (nI_ne1 (by omega)))
          exact x_vret C hr hlocks h (by rw [show pqC (ga st 32) np (ilF lp dn) a = (s1a, false) by (rw [pqC, s1]; rfl)]; exact Eu20) dX8_choice_130
        · refine lv_iconst (v := nI 1) hx hb dX8_choice_98 (by decide) ?_
          refine x_topi (y := bi true) rfl ?_
          refine lv_goto (tgt := 103) hx hb dX8_choice_99 (by decide) ?_
          refine cl_X8_160 C h (hM 30 (by decide)) rfl (c_X8_expects l D cy ad Ls u16 hM (nI s1a) (nI s1a) (by rw [Eu16]; exact gi_rm10) (by rw [Eu16]; exact gi_rm9) true) (x_room (by omega)) ⟨Nat.zero_le _, Nat.zero_le _⟩ hl.1 (Nat.le_of_ble_eq_true rfl) dX8_choice_103 (fun u22 H locs hp h => ?_)
          have Eu22 := hp; clear hp
          rw [if_neg (fun q => absurd q.2 (by decide)), Eu16] at Eu22
          refine lv_aload_n hx hb dX8_choice_106 rfl (lv_at hl 0 rfl) ?_
          refine gf_X8_148 C h (hM 30 (by decide)) rfl dX8_choice_107 ?_
          refine x_topi (y := nI s1a) (by rw [Eu22]; exact gi_rm10) ?_
          refine lv_iconst (v := (-1)) hx hb dX8_choice_110 (by decide) ?_
          refine lv_icmp_ne (tgt := 130) hx hb dX8_choice_111 (by decide) (fun _ => ?_) (fun q => absurd q (nI_ne1 (by omega)))
          exact x_vret C hr hlocks h (by rw [show pqC (ga st 32) np (ilF lp dn) a = (s1a, false) by (rw [pqC, s1]; rfl)]; exact Eu22) dX8_choice_130
      · refine lv_aload_n hx hb dX8_choice_41 rfl (lv_at hl 0 rfl) ?_
        refine lv_aload_n hx hb dX8_choice_42 rfl (lv_at hl 0 rfl) ?_
        refine gf_X8_134 C h (hM 30 (by decide)) rfl dX8_choice_43 ?_
        refine x_topi (y := nI s1a) (by rw [Eu2]; exact gi_rm9) ?_
        refine cl_X8_137 C h (hM 30 (by decide)) rfl (c_X8_sign l D cy ad Ls u2 hM np s1a hnp160 (by omega) (by rw [Eu2, gi_rmo (by decide)]; exact hnp)) (x_room (by omega)) ⟨Nat.zero_le _, Nat.zero_le _⟩ hl.1 (Nat.le_of_ble_eq_true rfl) dX8_choice_46 (fun r25 u24 H locs hp h => ?_)
        obtain ⟨er25, eu24⟩ := hp; rw [eu24] at h; clear eu24 u24; refine x_topi er25 ?_; clear er25 r25
        refine x_topi (y := msgF (ga st 32) np s1a) (by rw [Eu2, ga_rmo (by decide)]) ?_
        refine lv_bipush (v := nI 61) hx hb dX8_choice_49 (by decide) ?_
        refine lv_icmp_ne (tgt := 58) hx hb dX8_choice_51 (by decide) (fun c51 => ?_) (fun c51 => ?_)
        · refine lv_iconst (v := nI 0) hx hb dX8_choice_58 (by decide) ?_
          refine x_topi (y := bi false) rfl ?_
          refine cl_X8_160 C h (hM 30 (by decide)) rfl (c_X8_expects l D cy ad Ls u2 hM (nI s1a) (nI s1a) (by rw [Eu2]; exact gi_rm10) (by rw [Eu2]; exact gi_rm9) false) (x_room (by omega)) ⟨Nat.zero_le _, Nat.zero_le _⟩ hl.1 (Nat.le_of_ble_eq_true rfl) dX8_choice_59 (fun u26 H locs hp h => ?_)
          have Eu26 := hp; clear hp
          rw [if_neg (fun q => nI_ne1 (by omega) q.1), Eu2] at Eu26
          refine lv_aload_n hx hb dX8_choice_62 rfl (lv_at hl 0 rfl) ?_
          refine gf_X8_148 C h (hM 30 (by decide)) rfl dX8_choice_63 ?_
          refine x_topi (y := nI s1a) (by rw [Eu26]; exact gi_rm10) ?_
          refine lv_iconst (v := (-1)) hx hb dX8_choice_66 (by decide) ?_
          refine lv_icmp_ne (tgt := 84) hx hb dX8_choice_67 (by decide) (fun _ => ?_) (fun q => absurd q (nI_ne1 (by omega)))
          refine lv_aload_n hx hb dX8_choice_84 rfl (lv_at hl 0 rfl) ?_
          refine lv_aload_n hx hb dX8_choice_85 rfl (lv_at hl 0 rfl) ?_
          refine lv_aload_n hx hb dX8_choice_86 rfl (lv_at hl 0 rfl) ?_
          refine gf_X8_134 C h (hM 30 (by decide)) rfl dX8_choice_87 ?_
          refine x_topi (y := nI s1a) (by rw [Eu26]; exact gi_rm9) ?_
          refine cl_X8_137 C h (hM 30 (by decide)) rfl (c_X8_sign l D cy ad Ls u26 hM np s1a hnp160 (by omega) (by rw [Eu26, gi_rmo (by decide)]; exact hnp)) (x_room (by omega)) ⟨Nat.zero_le _, Nat.zero_le _⟩ hl.1 (Nat.le_of_ble_eq_true rfl) dX8_choice_90 (fun r29 u28 H locs hp h => ?_)
          obtain ⟨er29, eu28⟩ := hp; rw [eu28] at h; clear eu28 u28; refine x_topi er29 ?_; clear er29 r29
          refine x_topi (y := msgF (ga st 32) np s1a) (by rw [Eu26, ga_rmo (by decide)]) ?_
          refine lv_bipush (v := nI 58) hx hb dX8_choice_93 (by decide) ?_
          refine lv_icmp_ne (tgt := 102) hx hb dX8_choice_95 (by decide) (fun c95 => ?_) (fun c95 => ?_)
          · refine lv_iconst (v := nI 0) hx hb dX8_choice_102 (by decide) ?_
            refine x_topi (y := bi false) rfl ?_
            refine cl_X8_160 C h (hM 30 (by decide)) rfl (c_X8_expects l D cy ad Ls u26 hM (nI s1a) (nI s1a) (by rw [Eu26]; exact gi_rm10) (by rw [Eu26]; exact gi_rm9) false) (x_room (by omega)) ⟨Nat.zero_le _, Nat.zero_le _⟩ hl.1 (Nat.le_of_ble_eq_true rfl) dX8_choice_103 (fun u30 H locs hp h => ?_)
            have Eu30 := hp; clear hp
            rw [if_neg (fun q => nI_ne1 (by omega) q.1), Eu26] at Eu30
            refine lv_aload_n hx hb dX8_choice_106 rfl (lv_at hl 0 rfl) ?_
            refine gf_X8_148 C h (hM 30 (by decide)) rfl dX8_choice_107 ?_
            refine x_topi (y := nI s1a) (by rw [Eu30]; exact gi_rm10) ?_
            refine lv_iconst (v := (-1)) hx hb dX8_choice_110 (by decide) ?_
            refine lv_icmp_ne (tgt := 130) hx hb dX8_choice_111 (by decide) (fun _ => ?_) (fun q => absurd q (nI_ne1 (by omega)))
            exact x_vret C hr hlocks h (by rw [show pqC (ga st 32) np (ilF lp dn) a = (s1a, false) by (rw [pqC, s1]; rfl)]; exact Eu30) dX8_choice_130
          · refine lv_iconst (v := nI 1) hx hb dX8_choice_98 (by decide) ?_
            refine x_topi (y := bi true) rfl ?_
            refine lv_goto (tgt := 103) hx hb dX8_choice_99 (by decide) ?_
            refine cl_X8_160 C h (hM 30 (by decide)) rfl (c_X8_expects l D cy ad Ls u26 hM (nI s1a) (nI s1a) (by rw [Eu26]; exact gi_rm10) (by rw [Eu26]; exact gi_rm9) true) (x_room (by omega)) ⟨Nat.zero_le _, Nat.zero_le _⟩ hl.1 (Nat.le_of_ble_eq_true rfl) dX8_choice_103 (fun u32 H locs hp h => ?_)
            have Eu32 := hp; clear hp
            rw [if_neg (fun q => absurd q.2 (by decide)), Eu26] at Eu32
            refine lv_aload_n hx hb dX8_choice_106 rfl (lv_at hl 0 rfl) ?_
            refine gf_X8_148 C h (hM 30 (by decide)) rfl dX8_choice_107 ?_
            refine x_topi (y := nI s1a) (by rw [Eu32]; exact gi_rm10) ?_
            refine lv_iconst (v := (-1)) hx hb dX8_choice_110 (by decide) ?_
            refine lv_icmp_ne (tgt := 130) hx hb dX8_choice_111 (by decide) (fun _ => ?_) (fun q => absurd q (nI_ne1 (by omega)))
            exact x_vret C hr hlocks h (by rw [show pqC (ga st 32) np (ilF lp dn) a = (s1a, false) by (rw [pqC, s1]; rfl)]; exact Eu32) dX8_choice_130
        · refine lv_iconst (v := nI 1) hx hb dX8_choice_54 (by decide) ?_
          refine x_topi (y := bi true) rfl ?_
          refine lv_goto (tgt := 59) hx hb dX8_choice_55 (by decide) ?_
          refine cl_X8_160 C h (hM 30 (by decide)) rfl (c_X8_expects l D cy ad Ls u2 hM (nI s1a) (nI s1a) (by rw [Eu2]; exact gi_rm10) (by rw [Eu2]; exact gi_rm9) true) (x_room (by omega)) ⟨Nat.zero_le _, Nat.zero_le _⟩ hl.1 (Nat.le_of_ble_eq_true rfl) dX8_choice_59 (fun u34 H locs hp h => ?_)
          have Eu34 := hp; clear hp
          rw [if_neg (fun q => absurd q.2 (by decide)), Eu2] at Eu34
          refine lv_aload_n hx hb dX8_choice_62 rfl (lv_at hl 0 rfl) ?_
          refine gf_X8_148 C h (hM 30 (by decide)) rfl dX8_choice_63 ?_
          refine x_topi (y := nI s1a) (by rw [Eu34]; exact gi_rm10) ?_
          refine lv_iconst (v := (-1)) hx hb dX8_choice_66 (by decide) ?_
          refine lv_icmp_ne (tgt := 84) hx hb dX8_choice_67 (by decide) (fun _ => ?_) (fun q => absurd q (nI_ne1 (by omega)))
          refine lv_aload_n hx hb dX8_choice_84 rfl (lv_at hl 0 rfl) ?_
          refine lv_aload_n hx hb dX8_choice_85 rfl (lv_at hl 0 rfl) ?_
          refine lv_aload_n hx hb dX8_choice_86 rfl (lv_at hl 0 rfl) ?_
          refine gf_X8_134 C h (hM 30 (by decide)) rfl dX8_choice_87 ?_
          refine x_topi (y := nI s1a) (by rw [Eu34]; exact gi_rm9) ?_
          refine cl_X8_137 C h (hM 30 (by decide)) rfl (c_X8_sign l D cy ad Ls u34 hM np s1a hnp160 (by omega) (by rw [Eu34, gi_rmo (by decide)]; exact hnp)) (x_room (by omega)) ⟨Nat.zero_le _, Nat.zero_le _⟩ hl.1 (Nat.le_of_ble_eq_true rfl) dX8_choice_90 (fun r37 u36 H locs hp h => ?_)
          obtain ⟨er37, eu36⟩ := hp; rw [eu36] at h; clear eu36 u36; refine x_topi er37 ?_; clear er37 r37
          refine x_topi (y := msgF (ga st 32) np s1a) (by rw [Eu34, ga_rmo (by decide)]) ?_
          refine lv_bipush (v := nI 58) hx hb dX8_choice_93 (by decide) ?_
          refine lv_icmp_ne (tgt := 102) hx hb dX8_choice_95 (by decide) (fun c95 => ?_) (fun c95 => ?_)
          · refine lv_iconst (v := nI 0) hx hb dX8_choice_102 (by decide) ?_
            refine x_topi (y := bi false) rfl ?_
            refine cl_X8_160 C h (hM 30 (by decide)) rfl (c_X8_expects l D cy ad Ls u34 hM (nI s1a) (nI s1a) (by rw [Eu34]; exact gi_rm10) (by rw [Eu34]; exact gi_rm9) false) (x_room (by omega)) ⟨Nat.zero_le _, Nat.zero_le _⟩ hl.1 (Nat.le_of_ble_eq_true rfl) dX8_choice_103 (fun u38 H locs hp h => ?_)
            have Eu38 := hp; clear hp
            rw [if_neg (fun q => nI_ne1 (by omega) q.1), Eu34] at Eu38
            refine lv_aload_n hx hb dX8_choice_106 rfl (lv_at hl 0 rfl) ?_
            refine gf_X8_148 C h (hM 30 (by decide)) rfl dX8_choice_107 ?_
            refine x_topi (y := nI s1a) (by rw [Eu38]; exact gi_rm10) ?_
            refine lv_iconst (v := (-1)) hx hb dX8_choice_110 (by decide) ?_
            refine lv_icmp_ne (tgt := 130) hx hb dX8_choice_111 (by decide) (fun _ => ?_) (fun q => absurd q (nI_ne1 (by omega)))
            exact x_vret C hr hlocks h (by rw [show pqC (ga st 32) np (ilF lp dn) a = (s1a, false) by (rw [pqC, s1]; rfl)]; exact Eu38) dX8_choice_130
          · refine lv_iconst (v := nI 1) hx hb dX8_choice_98 (by decide) ?_
            refine x_topi (y := bi true) rfl ?_
            refine lv_goto (tgt := 103) hx hb dX8_choice_99 (by decide) ?_
            refine cl_X8_160 C h (hM 30 (by decide)) rfl (c_X8_expects l D cy ad Ls u34 hM (nI s1a) (nI s1a) (by rw [Eu34]; exact gi_rm10) (by rw [Eu34]; exact gi_rm9) true) (x_room (by omega)) ⟨Nat.zero_le _, Nat.zero_le _⟩ hl.1 (Nat.le_of_ble_eq_true rfl) dX8_choice_103 (fun u40 H locs hp h => ?_)
            have Eu40 := hp; clear hp
            rw [if_neg (fun q => absurd q.2 (by decide)), Eu34] at Eu40
            refine lv_aload_n hx hb dX8_choice_106 rfl (lv_at hl 0 rfl) ?_
            refine gf_X8_148 C h (hM 30 (by decide)) rfl dX8_choice_107 ?_
            refine x_topi (y := nI s1a) (by rw [Eu40]; exact gi_rm10) ?_
            refine lv_iconst (v := (-1)) hx hb dX8_choice_110 (by decide) ?_
            refine lv_icmp_ne (tgt := 130) hx hb dX8_choice_111 (by decide) (fun _ => ?_) (fun q => absurd q (nI_ne1 (by omega)))
            exact x_vret C hr hlocks h (by rw [show pqC (ga st 32) np (ilF lp dn) a = (s1a, false) by (rw [pqC, s1]; rfl)]; exact Eu40) dX8_choice_130
  · rw [s1] at s11 s12 Eu2
    change _ ≤ s1a at s11; change s1a ≤ np at s12
    replace Eu2 : u2 = rqS st (nI s1a, -1, nI dn, q, al, bg, mi, mk, bo, ot) := Eu2
    refine lv_aload_n hx hb dX8_choice_14 rfl (lv_at hl 0 rfl) ?_
    refine lv_aload_n hx hb dX8_choice_15 rfl (lv_at hl 0 rfl) ?_
    refine lv_aload_n hx hb dX8_choice_16 rfl (lv_at hl 0 rfl) ?_
    refine gf_X8_134 C h (hM 30 (by decide)) rfl dX8_choice_17 ?_
    refine x_topi (y := nI s1a) (by rw [Eu2]; exact gi_rm9) ?_
    refine cl_X8_137 C h (hM 30 (by decide)) rfl (c_X8_sign l D cy ad Ls u2 hM np s1a hnp160 (by omega) (by rw [Eu2, gi_rmo (by decide)]; exact hnp)) (x_room (by omega)) ⟨Nat.zero_le _, Nat.zero_le _⟩ hl.1 (Nat.le_of_ble_eq_true rfl) dX8_choice_20 (fun r43 u42 H locs hp h => ?_)
    obtain ⟨er43, eu42⟩ := hp; rw [eu42] at h; clear eu42 u42; refine x_topi er43 ?_; clear er43 r43
    refine x_topi (y := msgF (ga st 32) np s1a) (by rw [Eu2, ga_rmo (by decide)]) ?_
    refine lv_bipush (v := nI 60) hx hb dX8_choice_23 (by decide) ?_
    refine lv_icmp_eq (tgt := 54) hx hb dX8_choice_25 (by decide) (fun c25 => ?_) (fun c25 => ?_)
    · refine lv_iconst (v := nI 1) hx hb dX8_choice_54 (by decide) ?_
      refine x_topi (y := bi true) rfl ?_
      refine lv_goto (tgt := 59) hx hb dX8_choice_55 (by decide) ?_
      refine cl_X8_160 C h (hM 30 (by decide)) rfl (c_X8_expects l D cy ad Ls u2 hM (-1) (nI s1a) (by rw [Eu2]; exact gi_rm10) (by rw [Eu2]; exact gi_rm9) true) (x_room (by omega)) ⟨Nat.zero_le _, Nat.zero_le _⟩ hl.1 (Nat.le_of_ble_eq_true rfl) dX8_choice_59 (fun u44 H locs hp h => ?_)
      have Eu44 := hp; clear hp
      rw [if_neg (fun q => absurd q.2 (by decide)), Eu2] at Eu44
      refine lv_aload_n hx hb dX8_choice_62 rfl (lv_at hl 0 rfl) ?_
      refine gf_X8_148 C h (hM 30 (by decide)) rfl dX8_choice_63 ?_
      refine x_topi (y := -1) (by rw [Eu44]; exact gi_rm10) ?_
      refine lv_iconst (v := (-1)) hx hb dX8_choice_66 (by decide) ?_
      refine lv_icmp_ne (tgt := 84) hx hb dX8_choice_67 (by decide) (fun q => absurd rfl q) (fun _ => ?_)
      have hlt1 : s1a < np := msg_lt c25 (by decide)
      refine lv_aload_n hx hb dX8_choice_70 rfl (lv_at hl 0 rfl) ?_
      refine lv_dup hx hb dX8_choice_71 rfl ?_
      refine gf_X8_134 C h (hM 30 (by decide)) rfl dX8_choice_72 ?_
      refine x_topi (y := nI s1a) (by rw [Eu44]; exact gi_rm9) ?_
      refine lv_iconst (v := nI 1) hx hb dX8_choice_75 (by decide) ?_
      refine x_addN hx hb dX8_choice_76 ?_
      refine pf_X8_134 C h (hM 30 (by decide)) rfl dX8_choice_77 (fun H locs u46 eu46 h => ?_)
      rw [Eu44, rm_9] at eu46
      refine lv_aload_n hx hb dX8_choice_80 rfl (lv_at hl 0 rfl) ?_
      rw [eu46] at h
      refine cl_X8_157 C h (hM 30 (by decide)) rfl (c_X8_sum l D cy ad Ls st hM np hnp160 hnp (s1a + 1) (by omega) dn q al bg mi mk bo ot hd5 lp hlp) (x_room (by omega)) ⟨Nat.zero_le _, Nat.zero_le _⟩ hl.1 (Nat.le_of_ble_eq_true rfl) dX8_choice_81 (fun u47 H locs hp h => ?_)
      have Eu47 := hp; clear hp
      obtain ⟨s21, s22⟩ := pqS_le (pg := (ga st 32)) (np := np) (il := ilF lp dn) (s1a + 1)
      replace s22 := s22 (by omega)
      rcases s2 : pqS (ga st 32) np (ilF lp dn) (s1a + 1) with ⟨s2a, _ | _⟩
      · rw [s2] at s21 s22 Eu47
        change _ ≤ s2a at s21; change s2a ≤ np at s22
        replace Eu47 : u47 = rqS st (nI s2a, nI s2a, nI dn, q, al, bg, mi, mk, bo, ot) := Eu47
        refine lv_aload_n hx hb dX8_choice_84 rfl (lv_at hl 0 rfl) ?_
        refine lv_aload_n hx hb dX8_choice_85 rfl (lv_at hl 0 rfl) ?_
        refine lv_aload_n hx hb dX8_choice_86 rfl (lv_at hl 0 rfl) ?_
        refine gf_X8_134 C h (hM 30 (by decide)) rfl dX8_choice_87 ?_
        refine x_topi (y := nI s2a) (by rw [Eu47]; exact gi_rm9) ?_
        refine cl_X8_137 C h (hM 30 (by decide)) rfl (c_X8_sign l D cy ad Ls u47 hM np s2a hnp160 (by omega) (by rw [Eu47, gi_rmo (by decide)]; exact hnp)) (x_room (by omega)) ⟨Nat.zero_le _, Nat.zero_le _⟩ hl.1 (Nat.le_of_ble_eq_true rfl) dX8_choice_90 (fun r50 u49 H locs hp h => ?_)
        obtain ⟨er50, eu49⟩ := hp; rw [eu49] at h; clear eu49 u49; refine x_topi er50 ?_; clear er50 r50
        refine x_topi (y := msgF (ga st 32) np s2a) (by rw [Eu47, ga_rmo (by decide)]) ?_
        refine lv_bipush (v := nI 58) hx hb dX8_choice_93 (by decide) ?_
        refine lv_icmp_ne (tgt := 102) hx hb dX8_choice_95 (by decide) (fun c95 => ?_) (fun c95 => ?_)
        · refine lv_iconst (v := nI 0) hx hb dX8_choice_102 (by decide) ?_
          refine x_topi (y := bi false) rfl ?_
          refine cl_X8_160 C h (hM 30 (by decide)) rfl (c_X8_expects l D cy ad Ls u47 hM (nI s2a) (nI s2a) (by rw [Eu47]; exact gi_rm10) (by rw [Eu47]; exact gi_rm9) false) (x_room (by omega)) ⟨Nat.zero_le _, Nat.zero_le _⟩ hl.1 (Nat.le_of_ble_eq_true rfl) dX8_choice_103 (fun u51 H locs hp h => ?_)
          have Eu51 := hp; clear hp
          rw [if_neg (fun q => nI_ne1 (by omega) q.1), Eu47] at Eu51
          refine lv_aload_n hx hb dX8_choice_106 rfl (lv_at hl 0 rfl) ?_
          refine gf_X8_148 C h (hM 30 (by decide)) rfl dX8_choice_107 ?_
          refine x_topi (y := nI s2a) (by rw [Eu51]; exact gi_rm10) ?_
          refine lv_iconst (v := (-1)) hx hb dX8_choice_110 (by decide) ?_
          refine lv_icmp_ne (tgt := 130) hx hb dX8_choice_111 (by decide) (fun _ => ?_) (fun q => absurd q (nI_ne1 (by omega)))
          exact x_vret C hr hlocks h (by rw [show pqC (ga st 32) np (ilF lp dn) a = (s2a, false) by (rw [pqC, s1, if_pos rfl, show pqR (msgF (ga st 32) np (s1a, true).1) = true by simp only [pqR, c25, decide_true, Bool.or_true, Bool.true_or], if_pos rfl]; show (if (pqS (ga st 32) np (ilF lp dn) (s1a + 1)).2 then _ else _) = _; rw [s2]; rfl)]; exact Eu51) dX8_choice_130
        · refine lv_iconst (v := nI 1) hx hb dX8_choice_98 (by decide) ?_
          refine x_topi (y := bi true) rfl ?_
          refine lv_goto (tgt := 103) hx hb dX8_choice_99 (by decide) ?_
          refine cl_X8_160 C h (hM 30 (by decide)) rfl (c_X8_expects l D cy ad Ls u47 hM (nI s2a) (nI s2a) (by rw [Eu47]; exact gi_rm10) (by rw [Eu47]; exact gi_rm9) true) (x_room (by omega)) ⟨Nat.zero_le _, Nat.zero_le _⟩ hl.1 (Nat.le_of_ble_eq_true rfl) dX8_choice_103 (fun u53 H locs hp h => ?_)
          have Eu53 := hp; clear hp
          rw [if_neg (fun q => absurd q.2 (by decide)), Eu47] at Eu53
          refine lv_aload_n hx hb dX8_choice_106 rfl (lv_at hl 0 rfl) ?_
          refine gf_X8_148 C h (hM 30 (by decide)) rfl dX8_choice_107 ?_
          refine x_topi (y := nI s2a) (by rw [Eu53]; exact gi_rm10) ?_
          refine lv_iconst (v := (-1)) hx hb dX8_choice_110 (by decide) ?_
          refine lv_icmp_ne (tgt := 130) hx hb dX8_choice_111 (by decide) (fun _ => ?_) (fun q => absurd q (nI_ne1 (by omega)))
          exact x_vret C hr hlocks h (by rw [show pqC (ga st 32) np (ilF lp dn) a = (s2a, false) by (rw [pqC, s1, if_pos rfl, show pqR (msgF (ga st 32) np (s1a, true).1) = true by simp only [pqR, c25, decide_true, Bool.or_true, Bool.true_or], if_pos rfl]; show (if (pqS (ga st 32) np (ilF lp dn) (s1a + 1)).2 then _ else _) = _; rw [s2]; rfl)]; exact Eu53) dX8_choice_130
      · rw [s2] at s21 s22 Eu47
        change _ ≤ s2a at s21; change s2a ≤ np at s22
        replace Eu47 : u47 = rqS st (nI s2a, -1, nI dn, q, al, bg, mi, mk, bo, ot) := Eu47
        refine lv_aload_n hx hb dX8_choice_84 rfl (lv_at hl 0 rfl) ?_
        refine lv_aload_n hx hb dX8_choice_85 rfl (lv_at hl 0 rfl) ?_
        refine lv_aload_n hx hb dX8_choice_86 rfl (lv_at hl 0 rfl) ?_
        refine gf_X8_134 C h (hM 30 (by decide)) rfl dX8_choice_87 ?_
        refine x_topi (y := nI s2a) (by rw [Eu47]; exact gi_rm9) ?_
        refine cl_X8_137 C h (hM 30 (by decide)) rfl (c_X8_sign l D cy ad Ls u47 hM np s2a hnp160 (by omega) (by rw [Eu47, gi_rmo (by decide)]; exact hnp)) (x_room (by omega)) ⟨Nat.zero_le _, Nat.zero_le _⟩ hl.1 (Nat.le_of_ble_eq_true rfl) dX8_choice_90 (fun r56 u55 H locs hp h => ?_)
        obtain ⟨er56, eu55⟩ := hp; rw [eu55] at h; clear eu55 u55; refine x_topi er56 ?_; clear er56 r56
        refine x_topi (y := msgF (ga st 32) np s2a) (by rw [Eu47, ga_rmo (by decide)]) ?_
        refine lv_bipush (v := nI 58) hx hb dX8_choice_93 (by decide) ?_
        refine lv_icmp_ne (tgt := 102) hx hb dX8_choice_95 (by decide) (fun c95 => ?_) (fun c95 => ?_)
        · refine lv_iconst (v := nI 0) hx hb dX8_choice_102 (by decide) ?_
          refine x_topi (y := bi false) rfl ?_
          refine cl_X8_160 C h (hM 30 (by decide)) rfl (c_X8_expects l D cy ad Ls u47 hM (-1) (nI s2a) (by rw [Eu47]; exact gi_rm10) (by rw [Eu47]; exact gi_rm9) false) (x_room (by omega)) ⟨Nat.zero_le _, Nat.zero_le _⟩ hl.1 (Nat.le_of_ble_eq_true rfl) dX8_choice_103 (fun u57 H locs hp h => ?_)
          have Eu57 := hp; clear hp
          rw [if_pos ⟨rfl, rfl⟩, Eu47, rm_10] at Eu57
          refine lv_aload_n hx hb dX8_choice_106 rfl (lv_at hl 0 rfl) ?_
          refine gf_X8_148 C h (hM 30 (by decide)) rfl dX8_choice_107 ?_
          refine x_topi (y := nI s2a) (by rw [Eu57]; exact gi_rm10) ?_
          refine lv_iconst (v := (-1)) hx hb dX8_choice_110 (by decide) ?_
          refine lv_icmp_ne (tgt := 130) hx hb dX8_choice_111 (by decide) (fun _ => ?_) (fun q => absurd q (nI_ne1 (by omega)))
          exact x_vret C hr hlocks h (by rw [show pqC (ga st 32) np (ilF lp dn) a = (s2a, false) by (rw [pqC, s1, if_pos rfl, show pqR (msgF (ga st 32) np (s1a, true).1) = true by simp only [pqR, c25, decide_true, Bool.or_true, Bool.true_or], if_pos rfl]; show (if (pqS (ga st 32) np (ilF lp dn) (s1a + 1)).2 then _ else _) = _; rw [s2]; exact if_neg c95)]; exact Eu57) dX8_choice_130
        · refine lv_iconst (v := nI 1) hx hb dX8_choice_98 (by decide) ?_
          refine x_topi (y := bi true) rfl ?_
          refine lv_goto (tgt := 103) hx hb dX8_choice_99 (by decide) ?_
          refine cl_X8_160 C h (hM 30 (by decide)) rfl (c_X8_expects l D cy ad Ls u47 hM (-1) (nI s2a) (by rw [Eu47]; exact gi_rm10) (by rw [Eu47]; exact gi_rm9) true) (x_room (by omega)) ⟨Nat.zero_le _, Nat.zero_le _⟩ hl.1 (Nat.le_of_ble_eq_true rfl) dX8_choice_103 (fun u59 H locs hp h => ?_)
          have Eu59 := hp; clear hp
          rw [if_neg (fun q => absurd q.2 (by decide)), Eu47] at Eu59
          refine lv_aload_n hx hb dX8_choice_106 rfl (lv_at hl 0 rfl) ?_
          refine gf_X8_148 C h (hM 30 (by decide)) rfl dX8_choice_107 ?_
          refine x_topi (y := -1) (by rw [Eu59]; exact gi_rm10) ?_
          refine lv_iconst (v := (-1)) hx hb dX8_choice_110 (by decide) ?_
          refine lv_icmp_ne (tgt := 130) hx hb dX8_choice_111 (by decide) (fun q => absurd rfl q) (fun _ => ?_)
          refine lv_aload_n hx hb dX8_choice_114 rfl (lv_at hl 0 rfl) ?_
          refine lv_dup hx hb dX8_choice_115 rfl ?_
          refine gf_X8_134 C h (hM 30 (by decide)) rfl dX8_choice_116 ?_
          refine x_topi (y := nI s2a) (by rw [Eu59]; exact gi_rm9) ?_
          refine lv_iconst (v := nI 1) hx hb dX8_choice_119 (by decide) ?_
          refine x_addN hx hb dX8_choice_120 ?_
          refine pf_X8_134 C h (hM 30 (by decide)) rfl dX8_choice_121 (fun H locs u61 eu61 h => ?_)
          rw [Eu59, rm_9] at eu61
          refine lv_aload_n hx hb dX8_choice_124 rfl (lv_at hl 0 rfl) ?_
          refine lv_iconst (v := nI 0) hx hb dX8_choice_125 (by decide) ?_
          refine x_topi (y := bi false) rfl ?_
          refine lv_iload_n hx hb dX8_choice_126 rfl (lv_at hl 1 rfl) ?_
          rw [eu61] at h
          refine cl_X8_164 C h (hM 30 (by decide)) rfl (c_X8_opens l D cy ad Ls st hM (nI (s2a + 1)) (-1) dn (by omega) q al bg mi mk bo ot false b9) (x_room (by omega)) ⟨Nat.zero_le _, Nat.zero_le _⟩ hl.1 (Nat.le_of_ble_eq_true rfl) dX8_choice_127 (fun u62 H locs hp h => ?_)
          have Eu62 := hp; clear hp
          exact x_vret C hr hlocks h (by rw [show pqC (ga st 32) np (ilF lp dn) a = (s2a + 1, true) by (rw [pqC, s1, if_pos rfl, show pqR (msgF (ga st 32) np (s1a, true).1) = true by simp only [pqR, c25, decide_true, Bool.or_true, Bool.true_or], if_pos rfl]; show (if (pqS (ga st 32) np (ilF lp dn) (s1a + 1)).2 then _ else _) = _; rw [s2]; exact if_pos c95)]; exact Eu62) dX8_choice_130
    · refine lv_aload_n hx hb dX8_choice_28 rfl (lv_at hl 0 rfl) ?_
      refine lv_aload_n hx hb dX8_choice_29 rfl (lv_at hl 0 rfl) ?_
      refine gf_X8_134 C h (hM 30 (by decide)) rfl dX8_choice_30 ?_
      refine x_topi (y := nI s1a) (by rw [Eu2]; exact gi_rm9) ?_
      refine cl_X8_137 C h (hM 30 (by decide)) rfl (c_X8_sign l D cy ad Ls u2 hM np s1a hnp160 (by omega) (by rw [Eu2, gi_rmo (by decide)]; exact hnp)) (x_room (by omega)) ⟨Nat.zero_le _, Nat.zero_le _⟩ hl.1 (Nat.le_of_ble_eq_true rfl) dX8_choice_33 (fun r65 u64 H locs hp h => ?_)
      obtain ⟨er65, eu64⟩ := hp; rw [eu64] at h; clear eu64 u64; refine x_topi er65 ?_; clear er65 r65
      refine x_topi (y := msgF (ga st 32) np s1a) (by rw [Eu2, ga_rmo (by decide)]) ?_
      refine lv_bipush (v := nI 62) hx hb dX8_choice_36 (by decide) ?_
      refine lv_icmp_eq (tgt := 54) hx hb dX8_choice_38 (by decide) (fun c38 => ?_) (fun c38 => ?_)
      · refine lv_iconst (v := nI 1) hx hb dX8_choice_54 (by decide) ?_
        refine x_topi (y := bi true) rfl ?_
        refine lv_goto (tgt := 59) hx hb dX8_choice_55 (by decide) ?_
        refine cl_X8_160 C h (hM 30 (by decide)) rfl (c_X8_expects l D cy ad Ls u2 hM (-1) (nI s1a) (by rw [Eu2]; exact gi_rm10) (by rw [Eu2]; exact gi_rm9) true) (x_room (by omega)) ⟨Nat.zero_le _, Nat.zero_le _⟩ hl.1 (Nat.le_of_ble_eq_true rfl) dX8_choice_59 (fun u66 H locs hp h => ?_)
        have Eu66 := hp; clear hp
        rw [if_neg (fun q => absurd q.2 (by decide)), Eu2] at Eu66
        refine lv_aload_n hx hb dX8_choice_62 rfl (lv_at hl 0 rfl) ?_
        refine gf_X8_148 C h (hM 30 (by decide)) rfl dX8_choice_63 ?_
        refine x_topi (y := -1) (by rw [Eu66]; exact gi_rm10) ?_
        refine lv_iconst (v := (-1)) hx hb dX8_choice_66 (by decide) ?_
        refine lv_icmp_ne (tgt := 84) hx hb dX8_choice_67 (by decide) (fun q => absurd rfl q) (fun _ => ?_)
        have hlt1 : s1a < np := msg_lt c38 (by decide)
        refine lv_aload_n hx hb dX8_choice_70 rfl (lv_at hl 0 rfl) ?_
        refine lv_dup hx hb dX8_choice_71 rfl ?_
        refine gf_X8_134 C h (hM 30 (by decide)) rfl dX8_choice_72 ?_
        refine x_topi (y := nI s1a) (by rw [Eu66]; exact gi_rm9) ?_
        refine lv_iconst (v := nI 1) hx hb dX8_choice_75 (by decide) ?_
        refine x_addN hx hb dX8_choice_76 ?_
        refine pf_X8_134 C h (hM 30 (by decide)) rfl dX8_choice_77 (fun H locs u68 eu68 h => ?_)
        rw [Eu66, rm_9] at eu68
        refine lv_aload_n hx hb dX8_choice_80 rfl (lv_at hl 0 rfl) ?_
        rw [eu68] at h
        refine cl_X8_157 C h (hM 30 (by decide)) rfl (c_X8_sum l D cy ad Ls st hM np hnp160 hnp (s1a + 1) (by omega) dn q al bg mi mk bo ot hd5 lp hlp) (x_room (by omega)) ⟨Nat.zero_le _, Nat.zero_le _⟩ hl.1 (Nat.le_of_ble_eq_true rfl) dX8_choice_81 (fun u69 H locs hp h => ?_)
        have Eu69 := hp; clear hp
        obtain ⟨s21, s22⟩ := pqS_le (pg := (ga st 32)) (np := np) (il := ilF lp dn) (s1a + 1)
        replace s22 := s22 (by omega)
        rcases s2 : pqS (ga st 32) np (ilF lp dn) (s1a + 1) with ⟨s2a, _ | _⟩
        · rw [s2] at s21 s22 Eu69
          change _ ≤ s2a at s21; change s2a ≤ np at s22
          replace Eu69 : u69 = rqS st (nI s2a, nI s2a, nI dn, q, al, bg, mi, mk, bo, ot) := Eu69
          refine lv_aload_n hx hb dX8_choice_84 rfl (lv_at hl 0 rfl) ?_
          refine lv_aload_n hx hb dX8_choice_85 rfl (lv_at hl 0 rfl) ?_
          refine lv_aload_n hx hb dX8_choice_86 rfl (lv_at hl 0 rfl) ?_
          refine gf_X8_134 C h (hM 30 (by decide)) rfl dX8_choice_87 ?_
          refine x_topi (y := nI s2a) (by rw [Eu69]; exact gi_rm9) ?_
          refine cl_X8_137 C h (hM 30 (by decide)) rfl (c_X8_sign l D cy ad Ls u69 hM np s2a hnp160 (by omega) (by rw [Eu69, gi_rmo (by decide)]; exact hnp)) (x_room (by omega)) ⟨Nat.zero_le _, Nat.zero_le _⟩ hl.1 (Nat.le_of_ble_eq_true rfl) dX8_choice_90 (fun r72 u71 H locs hp h => ?_)
          obtain ⟨er72, eu71⟩ := hp; rw [eu71] at h; clear eu71 u71; refine x_topi er72 ?_; clear er72 r72
          refine x_topi (y := msgF (ga st 32) np s2a) (by rw [Eu69, ga_rmo (by decide)]) ?_
          refine lv_bipush (v := nI 58) hx hb dX8_choice_93 (by decide) ?_
          refine lv_icmp_ne (tgt := 102) hx hb dX8_choice_95 (by decide) (fun c95 => ?_) (fun c95 => ?_)
          · refine lv_iconst (v := nI 0) hx hb dX8_choice_102 (by decide) ?_
            refine x_topi (y := bi false) rfl ?_
            refine cl_X8_160 C h (hM 30 (by decide)) rfl (c_X8_expects l D cy ad Ls u69 hM (nI s2a) (nI s2a) (by rw [Eu69]; exact gi_rm10) (by rw [Eu69]; exact gi_rm9) false) (x_room (by omega)) ⟨Nat.zero_le _, Nat.zero_le _⟩ hl.1 (Nat.le_of_ble_eq_true rfl) dX8_choice_103 (fun u73 H locs hp h => ?_)
            have Eu73 := hp; clear hp
            rw [if_neg (fun q => nI_ne1 (by omega) q.1), Eu69] at Eu73
            refine lv_aload_n hx hb dX8_choice_106 rfl (lv_at hl 0 rfl) ?_
            refine gf_X8_148 C h (hM 30 (by decide)) rfl dX8_choice_107 ?_
            refine x_topi (y := nI s2a) (by rw [Eu73]; exact gi_rm10) ?_
            refine lv_iconst (v := (-1)) hx hb dX8_choice_110 (by decide) ?_
            refine lv_icmp_ne (tgt := 130) hx hb dX8_choice_111 (by decide) (fun _ => ?_) (fun q => absurd q (nI_ne1 (by omega)))
            exact x_vret C hr hlocks h (by rw [show pqC (ga st 32) np (ilF lp dn) a = (s2a, false) by (rw [pqC, s1, if_pos rfl, show pqR (msgF (ga st 32) np (s1a, true).1) = true by simp only [pqR, c38, decide_true, Bool.or_true, Bool.true_or], if_pos rfl]; show (if (pqS (ga st 32) np (ilF lp dn) (s1a + 1)).2 then _ else _) = _; rw [s2]; rfl)]; exact Eu73) dX8_choice_130
          · refine lv_iconst (v := nI 1) hx hb dX8_choice_98 (by decide) ?_
            refine x_topi (y := bi true) rfl ?_
            refine lv_goto (tgt := 103) hx hb dX8_choice_99 (by decide) ?_
            refine cl_X8_160 C h (hM 30 (by decide)) rfl (c_X8_expects l D cy ad Ls u69 hM (nI s2a) (nI s2a) (by rw [Eu69]; exact gi_rm10) (by rw [Eu69]; exact gi_rm9) true) (x_room (by omega)) ⟨Nat.zero_le _, Nat.zero_le _⟩ hl.1 (Nat.le_of_ble_eq_true rfl) dX8_choice_103 (fun u75 H locs hp h => ?_)
            have Eu75 := hp; clear hp
            rw [if_neg (fun q => absurd q.2 (by decide)), Eu69] at Eu75
            refine lv_aload_n hx hb dX8_choice_106 rfl (lv_at hl 0 rfl) ?_
            refine gf_X8_148 C h (hM 30 (by decide)) rfl dX8_choice_107 ?_
            refine x_topi (y := nI s2a) (by rw [Eu75]; exact gi_rm10) ?_
            refine lv_iconst (v := (-1)) hx hb dX8_choice_110 (by decide) ?_
            refine lv_icmp_ne (tgt := 130) hx hb dX8_choice_111 (by decide) (fun _ => ?_) (fun q => absurd q (nI_ne1 (by omega)))
            exact x_vret C hr hlocks h (by rw [show pqC (ga st 32) np (ilF lp dn) a = (s2a, false) by (rw [pqC, s1, if_pos rfl, show pqR (msgF (ga st 32) np (s1a, true).1) = true by simp only [pqR, c38, decide_true, Bool.or_true, Bool.true_or], if_pos rfl]; show (if (pqS (ga st 32) np (ilF lp dn) (s1a + 1)).2 then _ else _) = _; rw [s2]; rfl)]; exact Eu75) dX8_choice_130
        · rw [s2] at s21 s22 Eu69
          change _ ≤ s2a at s21; change s2a ≤ np at s22
          replace Eu69 : u69 = rqS st (nI s2a, -1, nI dn, q, al, bg, mi, mk, bo, ot) := Eu69
          refine lv_aload_n hx hb dX8_choice_84 rfl (lv_at hl 0 rfl) ?_
          refine lv_aload_n hx hb dX8_choice_85 rfl (lv_at hl 0 rfl) ?_
          refine lv_aload_n hx hb dX8_choice_86 rfl (lv_at hl 0 rfl) ?_
          refine gf_X8_134 C h (hM 30 (by decide)) rfl dX8_choice_87 ?_
          refine x_topi (y := nI s2a) (by rw [Eu69]; exact gi_rm9) ?_
          refine cl_X8_137 C h (hM 30 (by decide)) rfl (c_X8_sign l D cy ad Ls u69 hM np s2a hnp160 (by omega) (by rw [Eu69, gi_rmo (by decide)]; exact hnp)) (x_room (by omega)) ⟨Nat.zero_le _, Nat.zero_le _⟩ hl.1 (Nat.le_of_ble_eq_true rfl) dX8_choice_90 (fun r78 u77 H locs hp h => ?_)
          obtain ⟨er78, eu77⟩ := hp; rw [eu77] at h; clear eu77 u77; refine x_topi er78 ?_; clear er78 r78
          refine x_topi (y := msgF (ga st 32) np s2a) (by rw [Eu69, ga_rmo (by decide)]) ?_
          refine lv_bipush (v := nI 58) hx hb dX8_choice_93 (by decide) ?_
          refine lv_icmp_ne (tgt := 102) hx hb dX8_choice_95 (by decide) (fun c95 => ?_) (fun c95 => ?_)
          · refine lv_iconst (v := nI 0) hx hb dX8_choice_102 (by decide) ?_
            refine x_topi (y := bi false) rfl ?_
            refine cl_X8_160 C h (hM 30 (by decide)) rfl (c_X8_expects l D cy ad Ls u69 hM (-1) (nI s2a) (by rw [Eu69]; exact gi_rm10) (by rw [Eu69]; exact gi_rm9) false) (x_room (by omega)) ⟨Nat.zero_le _, Nat.zero_le _⟩ hl.1 (Nat.le_of_ble_eq_true rfl) dX8_choice_103 (fun u79 H locs hp h => ?_)
            have Eu79 := hp; clear hp
            rw [if_pos ⟨rfl, rfl⟩, Eu69, rm_10] at Eu79
            refine lv_aload_n hx hb dX8_choice_106 rfl (lv_at hl 0 rfl) ?_
            refine gf_X8_148 C h (hM 30 (by decide)) rfl dX8_choice_107 ?_
            refine x_topi (y := nI s2a) (by rw [Eu79]; exact gi_rm10) ?_
            refine lv_iconst (v := (-1)) hx hb dX8_choice_110 (by decide) ?_
            refine lv_icmp_ne (tgt := 130) hx hb dX8_choice_111 (by decide) (fun _ => ?_) (fun q => absurd q (nI_ne1 (by omega)))
            exact x_vret C hr hlocks h (by rw [show pqC (ga st 32) np (ilF lp dn) a = (s2a, false) by (rw [pqC, s1, if_pos rfl, show pqR (msgF (ga st 32) np (s1a, true).1) = true by simp only [pqR, c38, decide_true, Bool.or_true, Bool.true_or], if_pos rfl]; show (if (pqS (ga st 32) np (ilF lp dn) (s1a + 1)).2 then _ else _) = _; rw [s2]; exact if_neg c95)]; exact Eu79) dX8_choice_130
          · refine lv_iconst (v := nI 1) hx hb dX8_choice_98 (by decide) ?_
            refine x_topi (y := bi true) rfl ?_
            refine lv_goto (tgt := 103) hx hb dX8_choice_99 (by decide) ?_
            refine cl_X8_160 C h (hM 30 (by decide)) rfl (c_X8_expects l D cy ad Ls u69 hM (-1) (nI s2a) (by rw [Eu69]; exact gi_rm10) (by rw [Eu69]; exact gi_rm9) true) (x_room (by omega)) ⟨Nat.zero_le _, Nat.zero_le _⟩ hl.1 (Nat.le_of_ble_eq_true rfl) dX8_choice_103 (fun u81 H locs hp h => ?_)
            have Eu81 := hp; clear hp
            rw [if_neg (fun q => absurd q.2 (by decide)), Eu69] at Eu81
            refine lv_aload_n hx hb dX8_choice_106 rfl (lv_at hl 0 rfl) ?_
            refine gf_X8_148 C h (hM 30 (by decide)) rfl dX8_choice_107 ?_
            refine x_topi (y := -1) (by rw [Eu81]; exact gi_rm10) ?_
            refine lv_iconst (v := (-1)) hx hb dX8_choice_110 (by decide) ?_
            refine lv_icmp_ne (tgt := 130) hx hb dX8_choice_111 (by decide) (fun q => absurd rfl q) (fun _ => ?_)
            refine lv_aload_n hx hb dX8_choice_114 rfl (lv_at hl 0 rfl) ?_
            refine lv_dup hx hb dX8_choice_115 rfl ?_
            refine gf_X8_134 C h (hM 30 (by decide)) rfl dX8_choice_116 ?_
            refine x_topi (y := nI s2a) (by rw [Eu81]; exact gi_rm9) ?_
            refine lv_iconst (v := nI 1) hx hb dX8_choice_119 (by decide) ?_
            refine x_addN hx hb dX8_choice_120 ?_
            refine pf_X8_134 C h (hM 30 (by decide)) rfl dX8_choice_121 (fun H locs u83 eu83 h => ?_)
            rw [Eu81, rm_9] at eu83
            refine lv_aload_n hx hb dX8_choice_124 rfl (lv_at hl 0 rfl) ?_
            refine lv_iconst (v := nI 0) hx hb dX8_choice_125 (by decide) ?_
            refine x_topi (y := bi false) rfl ?_
            refine lv_iload_n hx hb dX8_choice_126 rfl (lv_at hl 1 rfl) ?_
            rw [eu83] at h
            refine cl_X8_164 C h (hM 30 (by decide)) rfl (c_X8_opens l D cy ad Ls st hM (nI (s2a + 1)) (-1) dn (by omega) q al bg mi mk bo ot false b9) (x_room (by omega)) ⟨Nat.zero_le _, Nat.zero_le _⟩ hl.1 (Nat.le_of_ble_eq_true rfl) dX8_choice_127 (fun u84 H locs hp h => ?_)
            have Eu84 := hp; clear hp
            exact x_vret C hr hlocks h (by rw [show pqC (ga st 32) np (ilF lp dn) a = (s2a + 1, true) by (rw [pqC, s1, if_pos rfl, show pqR (msgF (ga st 32) np (s1a, true).1) = true by simp only [pqR, c38, decide_true, Bool.or_true, Bool.true_or], if_pos rfl]; show (if (pqS (ga st 32) np (ilF lp dn) (s1a + 1)).2 then _ else _) = _; rw [s2]; exact if_pos c95)]; exact Eu84) dX8_choice_130
      · refine lv_aload_n hx hb dX8_choice_41 rfl (lv_at hl 0 rfl) ?_
        refine lv_aload_n hx hb dX8_choice_42 rfl (lv_at hl 0 rfl) ?_
        refine gf_X8_134 C h (hM 30 (by decide)) rfl dX8_choice_43 ?_
        refine x_topi (y := nI s1a) (by rw [Eu2]; exact gi_rm9) ?_
        refine cl_X8_137 C h (hM 30 (by decide)) rfl (c_X8_sign l D cy ad Ls u2 hM np s1a hnp160 (by omega) (by rw [Eu2, gi_rmo (by decide)]; exact hnp)) (x_room (by omega)) ⟨Nat.zero_le _, Nat.zero_le _⟩ hl.1 (Nat.le_of_ble_eq_true rfl) dX8_choice_46 (fun r87 u86 H locs hp h => ?_)
        obtain ⟨er87, eu86⟩ := hp; rw [eu86] at h; clear eu86 u86; refine x_topi er87 ?_; clear er87 r87
        refine x_topi (y := msgF (ga st 32) np s1a) (by rw [Eu2, ga_rmo (by decide)]) ?_
        refine lv_bipush (v := nI 61) hx hb dX8_choice_49 (by decide) ?_
        refine lv_icmp_ne (tgt := 58) hx hb dX8_choice_51 (by decide) (fun c51 => ?_) (fun c51 => ?_)
        · refine lv_iconst (v := nI 0) hx hb dX8_choice_58 (by decide) ?_
          refine x_topi (y := bi false) rfl ?_
          refine cl_X8_160 C h (hM 30 (by decide)) rfl (c_X8_expects l D cy ad Ls u2 hM (-1) (nI s1a) (by rw [Eu2]; exact gi_rm10) (by rw [Eu2]; exact gi_rm9) false) (x_room (by omega)) ⟨Nat.zero_le _, Nat.zero_le _⟩ hl.1 (Nat.le_of_ble_eq_true rfl) dX8_choice_59 (fun u88 H locs hp h => ?_)
          have Eu88 := hp; clear hp
          rw [if_pos ⟨rfl, rfl⟩, Eu2, rm_10] at Eu88
          refine lv_aload_n hx hb dX8_choice_62 rfl (lv_at hl 0 rfl) ?_
          refine gf_X8_148 C h (hM 30 (by decide)) rfl dX8_choice_63 ?_
          refine x_topi (y := nI s1a) (by rw [Eu88]; exact gi_rm10) ?_
          refine lv_iconst (v := (-1)) hx hb dX8_choice_66 (by decide) ?_
          refine lv_icmp_ne (tgt := 84) hx hb dX8_choice_67 (by decide) (fun _ => ?_) (fun q => absurd q (nI_ne1 (by omega)))
          refine lv_aload_n hx hb dX8_choice_84 rfl (lv_at hl 0 rfl) ?_
          refine lv_aload_n hx hb dX8_choice_85 rfl (lv_at hl 0 rfl) ?_
          refine lv_aload_n hx hb dX8_choice_86 rfl (lv_at hl 0 rfl) ?_
          refine gf_X8_134 C h (hM 30 (by decide)) rfl dX8_choice_87 ?_
          refine x_topi (y := nI s1a) (by rw [Eu88]; exact gi_rm9) ?_
          refine cl_X8_137 C h (hM 30 (by decide)) rfl (c_X8_sign l D cy ad Ls u88 hM np s1a hnp160 (by omega) (by rw [Eu88, gi_rmo (by decide)]; exact hnp)) (x_room (by omega)) ⟨Nat.zero_le _, Nat.zero_le _⟩ hl.1 (Nat.le_of_ble_eq_true rfl) dX8_choice_90 (fun r91 u90 H locs hp h => ?_)
          obtain ⟨er91, eu90⟩ := hp; rw [eu90] at h; clear eu90 u90; refine x_topi er91 ?_; clear er91 r91
          refine x_topi (y := msgF (ga st 32) np s1a) (by rw [Eu88, ga_rmo (by decide)]) ?_
          refine lv_bipush (v := nI 58) hx hb dX8_choice_93 (by decide) ?_
          refine lv_icmp_ne (tgt := 102) hx hb dX8_choice_95 (by decide) (fun c95 => ?_) (fun c95 => ?_)
          · refine lv_iconst (v := nI 0) hx hb dX8_choice_102 (by decide) ?_
            refine x_topi (y := bi false) rfl ?_
            refine cl_X8_160 C h (hM 30 (by decide)) rfl (c_X8_expects l D cy ad Ls u88 hM (nI s1a) (nI s1a) (by rw [Eu88]; exact gi_rm10) (by rw [Eu88]; exact gi_rm9) false) (x_room (by omega)) ⟨Nat.zero_le _, Nat.zero_le _⟩ hl.1 (Nat.le_of_ble_eq_true rfl) dX8_choice_103 (fun u92 H locs hp h => ?_)
            have Eu92 := hp; clear hp
            rw [if_neg (fun q => nI_ne1 (by omega) q.1), Eu88] at Eu92
            refine lv_aload_n hx hb dX8_choice_106 rfl (lv_at hl 0 rfl) ?_
            refine gf_X8_148 C h (hM 30 (by decide)) rfl dX8_choice_107 ?_
            refine x_topi (y := nI s1a) (by rw [Eu92]; exact gi_rm10) ?_
            refine lv_iconst (v := (-1)) hx hb dX8_choice_110 (by decide) ?_
            refine lv_icmp_ne (tgt := 130) hx hb dX8_choice_111 (by decide) (fun _ => ?_) (fun q => absurd q (nI_ne1 (by omega)))
            exact x_vret C hr hlocks h (by rw [show pqC (ga st 32) np (ilF lp dn) a = (s1a, false) by (rw [pqC, s1, if_pos rfl, show pqR (msgF (ga st 32) np (s1a, true).1) = false by simp only [pqR, c25, c38, c51, decide_false, Bool.or_false]]; rfl)]; exact Eu92) dX8_choice_130
          · refine lv_iconst (v := nI 1) hx hb dX8_choice_98 (by decide) ?_
            refine x_topi (y := bi true) rfl ?_
            refine lv_goto (tgt := 103) hx hb dX8_choice_99 (by decide) ?_
            refine cl_X8_160 C h (hM 30 (by decide)) rfl (c_X8_expects l D cy ad Ls u88 hM (nI s1a) (nI s1a) (by rw [Eu88]; exact gi_rm10) (by rw [Eu88]; exact gi_rm9) true) (x_room (by omega)) ⟨Nat.zero_le _, Nat.zero_le _⟩ hl.1 (Nat.le_of_ble_eq_true rfl) dX8_choice_103 (fun u94 H locs hp h => ?_)
            have Eu94 := hp; clear hp
            rw [if_neg (fun q => absurd q.2 (by decide)), Eu88] at Eu94
            refine lv_aload_n hx hb dX8_choice_106 rfl (lv_at hl 0 rfl) ?_
            refine gf_X8_148 C h (hM 30 (by decide)) rfl dX8_choice_107 ?_
            refine x_topi (y := nI s1a) (by rw [Eu94]; exact gi_rm10) ?_
            refine lv_iconst (v := (-1)) hx hb dX8_choice_110 (by decide) ?_
            refine lv_icmp_ne (tgt := 130) hx hb dX8_choice_111 (by decide) (fun _ => ?_) (fun q => absurd q (nI_ne1 (by omega)))
            exact x_vret C hr hlocks h (by rw [show pqC (ga st 32) np (ilF lp dn) a = (s1a, false) by (rw [pqC, s1, if_pos rfl, show pqR (msgF (ga st 32) np (s1a, true).1) = false by simp only [pqR, c25, c38, c51, decide_false, Bool.or_false]]; rfl)]; exact Eu94) dX8_choice_130
        · refine lv_iconst (v := nI 1) hx hb dX8_choice_54 (by decide) ?_
          refine x_topi (y := bi true) rfl ?_
          refine lv_goto (tgt := 59) hx hb dX8_choice_55 (by decide) ?_
          refine cl_X8_160 C h (hM 30 (by decide)) rfl (c_X8_expects l D cy ad Ls u2 hM (-1) (nI s1a) (by rw [Eu2]; exact gi_rm10) (by rw [Eu2]; exact gi_rm9) true) (x_room (by omega)) ⟨Nat.zero_le _, Nat.zero_le _⟩ hl.1 (Nat.le_of_ble_eq_true rfl) dX8_choice_59 (fun u96 H locs hp h => ?_)
          have Eu96 := hp; clear hp
          rw [if_neg (fun q => absurd q.2 (by decide)), Eu2] at Eu96
          refine lv_aload_n hx hb dX8_choice_62 rfl (lv_at hl 0 rfl) ?_
          refine gf_X8_148 C h (hM 30 (by decide)) rfl dX8_choice_63 ?_
          refine x_topi (y := -1) (by rw [Eu96]; exact gi_rm10) ?_
          refine lv_iconst (v := (-1)) hx hb dX8_choice_66 (by decide) ?_
          refine lv_icmp_ne (tgt := 84) hx hb dX8_choice_67 (by decide) (fun q => absurd rfl q) (fun _ => ?_)
          have hlt1 : s1a < np := msg_lt c51 (by decide)
          refine lv_aload_n hx hb dX8_choice_70 rfl (lv_at hl 0 rfl) ?_
          refine lv_dup hx hb dX8_choice_71 rfl ?_
          refine gf_X8_134 C h (hM 30 (by decide)) rfl dX8_choice_72 ?_
          refine x_topi (y := nI s1a) (by rw [Eu96]; exact gi_rm9) ?_
          refine lv_iconst (v := nI 1) hx hb dX8_choice_75 (by decide) ?_
          refine x_addN hx hb dX8_choice_76 ?_
          refine pf_X8_134 C h (hM 30 (by decide)) rfl dX8_choice_77 (fun H locs u98 eu98 h => ?_)
          rw [Eu96, rm_9] at eu98
          refine lv_aload_n hx hb dX8_choice_80 rfl (lv_at hl 0 rfl) ?_
          rw [eu98] at h
          refine cl_X8_157 C h (hM 30 (by decide)) rfl (c_X8_sum l D cy ad Ls st hM np hnp160 hnp (s1a + 1) (by omega) dn q al bg mi mk bo ot hd5 lp hlp) (x_room (by omega)) ⟨Nat.zero_le _, Nat.zero_le _⟩ hl.1 (Nat.le_of_ble_eq_true rfl) dX8_choice_81 (fun u99 H locs hp h => ?_)
          have Eu99 := hp; clear hp
          obtain ⟨s21, s22⟩ := pqS_le (pg := (ga st 32)) (np := np) (il := ilF lp dn) (s1a + 1)
          replace s22 := s22 (by omega)
          rcases s2 : pqS (ga st 32) np (ilF lp dn) (s1a + 1) with ⟨s2a, _ | _⟩
          · rw [s2] at s21 s22 Eu99
            change _ ≤ s2a at s21; change s2a ≤ np at s22
            replace Eu99 : u99 = rqS st (nI s2a, nI s2a, nI dn, q, al, bg, mi, mk, bo, ot) := Eu99
            refine lv_aload_n hx hb dX8_choice_84 rfl (lv_at hl 0 rfl) ?_
            refine lv_aload_n hx hb dX8_choice_85 rfl (lv_at hl 0 rfl) ?_
            refine lv_aload_n hx hb dX8_choice_86 rfl (lv_at hl 0 rfl) ?_
            refine gf_X8_134 C h (hM 30 (by decide)) rfl dX8_choice_87 ?_
            refine x_topi (y := nI s2a) (by rw [Eu99]; exact gi_rm9) ?_
            refine cl_X8_137 C h (hM 30 (by decide)) rfl (c_X8_sign l D cy ad Ls u99 hM np s2a hnp160 (by omega) (by rw [Eu99, gi_rmo (by decide)]; exact hnp)) (x_room (by omega)) ⟨Nat.zero_le _, Nat.zero_le _⟩ hl.1 (Nat.le_of_ble_eq_true rfl) dX8_choice_90 (fun r102 u101 H locs hp h => ?_)
            obtain ⟨er102, eu101⟩ := hp; rw [eu101] at h; clear eu101 u101; refine x_topi er102 ?_; clear er102 r102
            refine x_topi (y := msgF (ga st 32) np s2a) (by rw [Eu99, ga_rmo (by decide)]) ?_
            refine lv_bipush (v := nI 58) hx hb dX8_choice_93 (by decide) ?_
            refine lv_icmp_ne (tgt := 102) hx hb dX8_choice_95 (by decide) (fun c95 => ?_) (fun c95 => ?_)
            · refine lv_iconst (v := nI 0) hx hb dX8_choice_102 (by decide) ?_
              refine x_topi (y := bi false) rfl ?_
              refine cl_X8_160 C h (hM 30 (by decide)) rfl (c_X8_expects l D cy ad Ls u99 hM (nI s2a) (nI s2a) (by rw [Eu99]; exact gi_rm10) (by rw [Eu99]; exact gi_rm9) false) (x_room (by omega)) ⟨Nat.zero_le _, Nat.zero_le _⟩ hl.1 (Nat.le_of_ble_eq_true rfl) dX8_choice_103 (fun u103 H locs hp h => ?_)
              have Eu103 := hp; clear hp
              rw [if_neg (fun q => nI_ne1 (by omega) q.1), Eu99] at Eu103
              refine lv_aload_n hx hb dX8_choice_106 rfl (lv_at hl 0 rfl) ?_
              refine gf_X8_148 C h (hM 30 (by decide)) rfl dX8_choice_107 ?_
              refine x_topi (y := nI s2a) (by rw [Eu103]; exact gi_rm10) ?_
              refine lv_iconst (v := (-1)) hx hb dX8_choice_110 (by decide) ?_
              refine lv_icmp_ne (tgt := 130) hx hb dX8_choice_111 (by decide) (fun _ => ?_) (fun q => absurd q (nI_ne1 (by omega)))
              exact x_vret C hr hlocks h (by rw [show pqC (ga st 32) np (ilF lp dn) a = (s2a, false) by (rw [pqC, s1, if_pos rfl, show pqR (msgF (ga st 32) np (s1a, true).1) = true by simp only [pqR, c51, decide_true, Bool.or_true, Bool.true_or], if_pos rfl]; show (if (pqS (ga st 32) np (ilF lp dn) (s1a + 1)).2 then _ else _) = _; rw [s2]; rfl)]; exact Eu103) dX8_choice_130
            · refine lv_iconst (v := nI 1) hx hb dX8_choice_98 (by decide) ?_
              refine x_topi (y := bi true) rfl ?_
              refine lv_goto (tgt := 103) hx hb dX8_choice_99 (by decide) ?_
              refine cl_X8_160 C h (hM 30 (by decide)) rfl (c_X8_expects l D cy ad Ls u99 hM (nI s2a) (nI s2a) (by rw [Eu99]; exact gi_rm10) (by rw [Eu99]; exact gi_rm9) true) (x_room (by omega)) ⟨Nat.zero_le _, Nat.zero_le _⟩ hl.1 (Nat.le_of_ble_eq_true rfl) dX8_choice_103 (fun u105 H locs hp h => ?_)
              have Eu105 := hp; clear hp
              rw [if_neg (fun q => absurd q.2 (by decide)), Eu99] at Eu105
              refine lv_aload_n hx hb dX8_choice_106 rfl (lv_at hl 0 rfl) ?_
              refine gf_X8_148 C h (hM 30 (by decide)) rfl dX8_choice_107 ?_
              refine x_topi (y := nI s2a) (by rw [Eu105]; exact gi_rm10) ?_
              refine lv_iconst (v := (-1)) hx hb dX8_choice_110 (by decide) ?_
              refine lv_icmp_ne (tgt := 130) hx hb dX8_choice_111 (by decide) (fun _ => ?_) (fun q => absurd q (nI_ne1 (by omega)))
              exact x_vret C hr hlocks h (by rw [show pqC (ga st 32) np (ilF lp dn) a = (s2a, false) by (rw [pqC, s1, if_pos rfl, show pqR (msgF (ga st 32) np (s1a, true).1) = true by simp only [pqR, c51, decide_true, Bool.or_true, Bool.true_or], if_pos rfl]; show (if (pqS (ga st 32) np (ilF lp dn) (s1a + 1)).2 then _ else _) = _; rw [s2]; rfl)]; exact Eu105) dX8_choice_130
          · rw [s2] at s21 s22 Eu99
            change _ ≤ s2a at s21; change s2a ≤ np at s22
            replace Eu99 : u99 = rqS st (nI s2a, -1, nI dn, q, al, bg, mi, mk, bo, ot) := Eu99
            refine lv_aload_n hx hb dX8_choice_84 rfl (lv_at hl 0 rfl) ?_
            refine lv_aload_n hx hb dX8_choice_85 rfl (lv_at hl 0 rfl) ?_
            refine lv_aload_n hx hb dX8_choice_86 rfl (lv_at hl 0 rfl) ?_
            refine gf_X8_134 C h (hM 30 (by decide)) rfl dX8_choice_87 ?_
            refine x_topi (y := nI s2a) (by rw [Eu99]; exact gi_rm9) ?_
            refine cl_X8_137 C h (hM 30 (by decide)) rfl (c_X8_sign l D cy ad Ls u99 hM np s2a hnp160 (by omega) (by rw [Eu99, gi_rmo (by decide)]; exact hnp)) (x_room (by omega)) ⟨Nat.zero_le _, Nat.zero_le _⟩ hl.1 (Nat.le_of_ble_eq_true rfl) dX8_choice_90 (fun r108 u107 H locs hp h => ?_)
            obtain ⟨er108, eu107⟩ := hp; rw [eu107] at h; clear eu107 u107; refine x_topi er108 ?_; clear er108 r108
            refine x_topi (y := msgF (ga st 32) np s2a) (by rw [Eu99, ga_rmo (by decide)]) ?_
            refine lv_bipush (v := nI 58) hx hb dX8_choice_93 (by decide) ?_
            refine lv_icmp_ne (tgt := 102) hx hb dX8_choice_95 (by decide) (fun c95 => ?_) (fun c95 => ?_)
            · refine lv_iconst (v := nI 0) hx hb dX8_choice_102 (by decide) ?_
              refine x_topi (y := bi false) rfl ?_
              refine cl_X8_160 C h (hM 30 (by decide)) rfl (c_X8_expects l D cy ad Ls u99 hM (-1) (nI s2a) (by rw [Eu99]; exact gi_rm10) (by rw [Eu99]; exact gi_rm9) false) (x_room (by omega)) ⟨Nat.zero_le _, Nat.zero_le _⟩ hl.1 (Nat.le_of_ble_eq_true rfl) dX8_choice_103 (fun u109 H locs hp h => ?_)
              have Eu109 := hp; clear hp
              rw [if_pos ⟨rfl, rfl⟩, Eu99, rm_10] at Eu109
              refine lv_aload_n hx hb dX8_choice_106 rfl (lv_at hl 0 rfl) ?_
              refine gf_X8_148 C h (hM 30 (by decide)) rfl dX8_choice_107 ?_
              refine x_topi (y := nI s2a) (by rw [Eu109]; exact gi_rm10) ?_
              refine lv_iconst (v := (-1)) hx hb dX8_choice_110 (by decide) ?_
              refine lv_icmp_ne (tgt := 130) hx hb dX8_choice_111 (by decide) (fun _ => ?_) (fun q => absurd q (nI_ne1 (by omega)))
              exact x_vret C hr hlocks h (by rw [show pqC (ga st 32) np (ilF lp dn) a = (s2a, false) by (rw [pqC, s1, if_pos rfl, show pqR (msgF (ga st 32) np (s1a, true).1) = true by simp only [pqR, c51, decide_true, Bool.or_true, Bool.true_or], if_pos rfl]; show (if (pqS (ga st 32) np (ilF lp dn) (s1a + 1)).2 then _ else _) = _; rw [s2]; exact if_neg c95)]; exact Eu109) dX8_choice_130
            · refine lv_iconst (v := nI 1) hx hb dX8_choice_98 (by decide) ?_
              refine x_topi (y := bi true) rfl ?_
              refine lv_goto (tgt := 103) hx hb dX8_choice_99 (by decide) ?_
              refine cl_X8_160 C h (hM 30 (by decide)) rfl (c_X8_expects l D cy ad Ls u99 hM (-1) (nI s2a) (by rw [Eu99]; exact gi_rm10) (by rw [Eu99]; exact gi_rm9) true) (x_room (by omega)) ⟨Nat.zero_le _, Nat.zero_le _⟩ hl.1 (Nat.le_of_ble_eq_true rfl) dX8_choice_103 (fun u111 H locs hp h => ?_)
              have Eu111 := hp; clear hp
              rw [if_neg (fun q => absurd q.2 (by decide)), Eu99] at Eu111
              refine lv_aload_n hx hb dX8_choice_106 rfl (lv_at hl 0 rfl) ?_
              refine gf_X8_148 C h (hM 30 (by decide)) rfl dX8_choice_107 ?_
              refine x_topi (y := -1) (by rw [Eu111]; exact gi_rm10) ?_
              refine lv_iconst (v := (-1)) hx hb dX8_choice_110 (by decide) ?_
              refine lv_icmp_ne (tgt := 130) hx hb dX8_choice_111 (by decide) (fun q => absurd rfl q) (fun _ => ?_)
              refine lv_aload_n hx hb dX8_choice_114 rfl (lv_at hl 0 rfl) ?_
              refine lv_dup hx hb dX8_choice_115 rfl ?_
              refine gf_X8_134 C h (hM 30 (by decide)) rfl dX8_choice_116 ?_
              refine x_topi (y := nI s2a) (by rw [Eu111]; exact gi_rm9) ?_
              refine lv_iconst (v := nI 1) hx hb dX8_choice_119 (by decide) ?_
              refine x_addN hx hb dX8_choice_120 ?_
              refine pf_X8_134 C h (hM 30 (by decide)) rfl dX8_choice_121 (fun H locs u113 eu113 h => ?_)
              rw [Eu111, rm_9] at eu113
              refine lv_aload_n hx hb dX8_choice_124 rfl (lv_at hl 0 rfl) ?_
              refine lv_iconst (v := nI 0) hx hb dX8_choice_125 (by decide) ?_
              refine x_topi (y := bi false) rfl ?_
              refine lv_iload_n hx hb dX8_choice_126 rfl (lv_at hl 1 rfl) ?_
              rw [eu113] at h
              refine cl_X8_164 C h (hM 30 (by decide)) rfl (c_X8_opens l D cy ad Ls st hM (nI (s2a + 1)) (-1) dn (by omega) q al bg mi mk bo ot false b9) (x_room (by omega)) ⟨Nat.zero_le _, Nat.zero_le _⟩ hl.1 (Nat.le_of_ble_eq_true rfl) dX8_choice_127 (fun u114 H locs hp h => ?_)
              have Eu114 := hp; clear hp
              exact x_vret C hr hlocks h (by rw [show pqC (ga st 32) np (ilF lp dn) a = (s2a + 1, true) by (rw [pqC, s1, if_pos rfl, show pqR (msgF (ga st 32) np (s1a, true).1) = true by simp only [pqR, c51, decide_true, Bool.or_true, Bool.true_or], if_pos rfl]; show (if (pqS (ga st 32) np (ilF lp dn) (s1a + 1)).2 then _ else _) = _; rw [s2]; exact if_pos c95)]; exact Eu114) dX8_choice_130

set_option maxHeartbeats 4000000 in
set_option maxRecDepth 100000 in
theorem c_X8_field (l : Launch) (D : va_G) (cy : Nat → ClassId) (ad : Nat → Nat) (Ls : List Nat) (st : XS) (hM : ∀ k, k ∈ LsM → k ∈ Ls) (np : Nat) (hnp160 : np ≤ 160) (hnp : gi st 1 30 = nI np) (a : Nat) (ha : a ≤ np) (dd q : Int32) (al bg mi mk bo ot : Nat → Int32) : xMv l yX8_field cX8_field 1 2 D cy ad Ls (rqS st (nI a, -1, dd, q, al, bg, mi, mk, bo, ot)) [.ref (ad 30)] (fun u => u = rqS st (nI ((pqF (ga st 32) np a).1 + 1), pqE (pqF (ga st 32) np a), dd, q + nI 1, al, bg, mi, mk, bo, ot)) := by
  intro sz
  refine x_of sz (by decide +kernel) (Nat.le_of_ble_eq_true rfl) ?_
  intro p e s m args below meth c ls hx hb hr hlocks C hsz h hl
  have hl : lv_has ls 1 [(0, .ref (ad 30))] := hl
  obtain ⟨H, eH⟩ : ∃ z, z = s.heap := ⟨_, rfl⟩
  obtain ⟨locs, eL⟩ : ∃ z : List Loc, z = [] := ⟨_, rfl⟩
  rw [← eH, ← eL] at h
  rw [← eH, ← eL]
  clear eH eL
  obtain ⟨v, hv⟩ : ∃ v, v = rqS st (nI a, -1, dd, q, al, bg, mi, mk, bo, ot) := ⟨_, rfl⟩
  rw [← hv] at h
  refine lv_aload_n hx hb dX8_field_0 rfl (lv_at hl 0 rfl) ?_
  refine lv_dup hx hb dX8_field_1 rfl ?_
  refine gf_X8_134 C h (hM 30 (by decide)) rfl dX8_field_2 ?_
  refine x_topi (y := nI a) (by rw [hv]; exact gi_rm9) ?_
  refine lv_iconst (v := nI 1) hx hb dX8_field_5 (by decide) ?_
  refine x_addN hx hb dX8_field_6 ?_
  refine pf_X8_134 C h (hM 30 (by decide)) rfl dX8_field_7 (fun H locs u1 eu1 h => ?_)
  rw [hv, rm_9] at eu1
  refine lv_aload_n hx hb dX8_field_10 rfl (lv_at hl 0 rfl) ?_
  refine lv_aload_n hx hb dX8_field_11 rfl (lv_at hl 0 rfl) ?_
  refine gf_X8_134 C h (hM 30 (by decide)) rfl dX8_field_12 ?_
  refine x_topi (y := nI (a + 1)) (by rw [eu1]; exact gi_rm9) ?_
  refine cl_X8_137 C h (hM 30 (by decide)) rfl (c_X8_sign l D cy ad Ls u1 hM np (a + 1) hnp160 (by omega) (by rw [eu1, gi_rmo (by decide)]; exact hnp)) (x_room (by omega)) ⟨Nat.zero_le _, Nat.zero_le _⟩ hl.1 (Nat.le_of_ble_eq_true rfl) dX8_field_15 (fun r3 u2 H locs hp h => ?_)
  obtain ⟨er3, eu2⟩ := hp; rw [eu2] at h; clear eu2 u2; refine x_topi er3 ?_; clear er3 r3
  refine x_topi (y := msgF (ga st 32) np (a + 1)) (by rw [eu1, ga_rmo (by decide)]) ?_
  refine lv_bipush (v := nI 49) hx hb dX8_field_18 (by decide) ?_
  refine lv_bipush (v := nI 57) hx hb dX8_field_20 (by decide) ?_
  refine cl_X8_120 C h (c_X8_isIn l D cy ad Ls u1 (msgF (ga st 32) np (a + 1)) (nI 49) (nI 57)) (x_room (by omega)) ⟨Nat.zero_le _, Nat.zero_le _⟩ hl.1 (Nat.le_of_ble_eq_true rfl) dX8_field_22 (fun r5 u4 H locs hp h => ?_)
  obtain ⟨er5, eu4⟩ := hp; rw [eu4] at h; clear eu4 u4; refine x_topi er5 ?_; clear er5 r5
  refine x_ifb_eq (tgt := 38) hx hb dX8_field_25 (by decide) (fun c25 => ?_) (fun c25 => ?_)
  · refine lv_aload_n hx hb dX8_field_38 rfl (lv_at hl 0 rfl) ?_
    refine lv_aload_n hx hb dX8_field_39 rfl (lv_at hl 0 rfl) ?_
    refine lv_aload_n hx hb dX8_field_40 rfl (lv_at hl 0 rfl) ?_
    refine gf_X8_134 C h (hM 30 (by decide)) rfl dX8_field_41 ?_
    refine x_topi (y := nI (a + 1)) (by rw [eu1]; exact gi_rm9) ?_
    refine cl_X8_137 C h (hM 30 (by decide)) rfl (c_X8_sign l D cy ad Ls u1 hM np (a + 1) hnp160 (by omega) (by rw [eu1, gi_rmo (by decide)]; exact hnp)) (x_room (by omega)) ⟨Nat.zero_le _, Nat.zero_le _⟩ hl.1 (Nat.le_of_ble_eq_true rfl) dX8_field_44 (fun r7 u6 H locs hp h => ?_)
    obtain ⟨er7, eu6⟩ := hp; rw [eu6] at h; clear eu6 u6; refine x_topi er7 ?_; clear er7 r7
    refine x_topi (y := msgF (ga st 32) np (a + 1)) (by rw [eu1, ga_rmo (by decide)]) ?_
    refine lv_bipush (v := nI 125) hx hb dX8_field_47 (by decide) ?_
    refine lv_icmp_ne (tgt := 56) hx hb dX8_field_49 (by decide) (fun c49 => ?_) (fun c49 => ?_)
    · refine lv_iconst (v := nI 0) hx hb dX8_field_56 (by decide) ?_
      refine x_topi (y := bi false) rfl ?_
      refine cl_X8_160 C h (hM 30 (by decide)) rfl (c_X8_expects l D cy ad Ls u1 hM (-1) (nI (a + 1)) (by rw [eu1]; exact gi_rm10) (by rw [eu1]; exact gi_rm9) false) (x_room (by omega)) ⟨Nat.zero_le _, Nat.zero_le _⟩ hl.1 (Nat.le_of_ble_eq_true rfl) dX8_field_57 (fun u8 H locs hp h => ?_)
      have Eu8 := hp; clear hp
      rw [if_pos ⟨rfl, rfl⟩, eu1, rm_10] at Eu8
      refine lv_aload_n hx hb dX8_field_60 rfl (lv_at hl 0 rfl) ?_
      refine lv_dup hx hb dX8_field_61 rfl ?_
      refine gf_X8_134 C h (hM 30 (by decide)) rfl dX8_field_62 ?_
      refine x_topi (y := nI (a + 1)) (by rw [Eu8]; exact gi_rm9) ?_
      refine lv_iconst (v := nI 1) hx hb dX8_field_65 (by decide) ?_
      refine x_addN hx hb dX8_field_66 ?_
      refine pf_X8_134 C h (hM 30 (by decide)) rfl dX8_field_67 (fun H locs u10 eu10 h => ?_)
      rw [Eu8, rm_9] at eu10
      refine lv_aload_n hx hb dX8_field_70 rfl (lv_at hl 0 rfl) ?_
      refine lv_dup hx hb dX8_field_71 rfl ?_
      refine gf_X8_154 C h (hM 30 (by decide)) rfl dX8_field_72 ?_
      refine x_topi (y := q) (by rw [eu10]; exact gi_rm12) ?_
      refine lv_iconst (v := nI 1) hx hb dX8_field_75 (by decide) ?_
      refine lv_iadd hx hb dX8_field_76 ?_
      refine pf_X8_154 C h (hM 30 (by decide)) rfl dX8_field_77 (fun H locs u11 eu11 h => ?_)
      rw [eu10, rm_12] at eu11
      exact x_vret C hr hlocks h (by rw [show pqF (ga st 32) np a = (a + 1, false) from by rw [pqF, c25]; simp only [c49, if_true, if_false, Bool.not_true, Bool.not_false, Bool.and_true, Bool.true_and, Bool.and_false, Bool.false_and, Bool.or_true, Bool.true_or, Bool.or_false, Bool.false_or, Bool.false_eq_true, eq_self, decide_true, decide_false]]; exact eu11) dX8_field_80
    · refine lv_iconst (v := nI 1) hx hb dX8_field_52 (by decide) ?_
      refine x_topi (y := bi true) rfl ?_
      refine lv_goto (tgt := 57) hx hb dX8_field_53 (by decide) ?_
      refine cl_X8_160 C h (hM 30 (by decide)) rfl (c_X8_expects l D cy ad Ls u1 hM (-1) (nI (a + 1)) (by rw [eu1]; exact gi_rm10) (by rw [eu1]; exact gi_rm9) true) (x_room (by omega)) ⟨Nat.zero_le _, Nat.zero_le _⟩ hl.1 (Nat.le_of_ble_eq_true rfl) dX8_field_57 (fun u12 H locs hp h => ?_)
      have Eu12 := hp; clear hp
      rw [if_neg (fun q => absurd q.2 (by decide)), eu1] at Eu12
      refine lv_aload_n hx hb dX8_field_60 rfl (lv_at hl 0 rfl) ?_
      refine lv_dup hx hb dX8_field_61 rfl ?_
      refine gf_X8_134 C h (hM 30 (by decide)) rfl dX8_field_62 ?_
      refine x_topi (y := nI (a + 1)) (by rw [Eu12]; exact gi_rm9) ?_
      refine lv_iconst (v := nI 1) hx hb dX8_field_65 (by decide) ?_
      refine x_addN hx hb dX8_field_66 ?_
      refine pf_X8_134 C h (hM 30 (by decide)) rfl dX8_field_67 (fun H locs u14 eu14 h => ?_)
      rw [Eu12, rm_9] at eu14
      refine lv_aload_n hx hb dX8_field_70 rfl (lv_at hl 0 rfl) ?_
      refine lv_dup hx hb dX8_field_71 rfl ?_
      refine gf_X8_154 C h (hM 30 (by decide)) rfl dX8_field_72 ?_
      refine x_topi (y := q) (by rw [eu14]; exact gi_rm12) ?_
      refine lv_iconst (v := nI 1) hx hb dX8_field_75 (by decide) ?_
      refine lv_iadd hx hb dX8_field_76 ?_
      refine pf_X8_154 C h (hM 30 (by decide)) rfl dX8_field_77 (fun H locs u15 eu15 h => ?_)
      rw [eu14, rm_12] at eu15
      exact x_vret C hr hlocks h (by rw [show pqF (ga st 32) np a = (a + 1, true) from by rw [pqF, c25]; simp only [c49, if_true, if_false, Bool.not_true, Bool.not_false, Bool.and_true, Bool.true_and, Bool.and_false, Bool.false_and, Bool.or_true, Bool.true_or, Bool.or_false, Bool.false_or, Bool.false_eq_true, eq_self, decide_true, decide_false]]; exact eu15) dX8_field_80
  · refine lv_aload_n hx hb dX8_field_28 rfl (lv_at hl 0 rfl) ?_
    refine lv_dup hx hb dX8_field_29 rfl ?_
    refine gf_X8_134 C h (hM 30 (by decide)) rfl dX8_field_30 ?_
    refine x_topi (y := nI (a + 1)) (by rw [eu1]; exact gi_rm9) ?_
    refine lv_iconst (v := nI 1) hx hb dX8_field_33 (by decide) ?_
    refine x_addN hx hb dX8_field_34 ?_
    refine pf_X8_134 C h (hM 30 (by decide)) rfl dX8_field_35 (fun H locs u16 eu16 h => ?_)
    rw [eu1, rm_9] at eu16
    refine lv_aload_n hx hb dX8_field_38 rfl (lv_at hl 0 rfl) ?_
    refine lv_aload_n hx hb dX8_field_39 rfl (lv_at hl 0 rfl) ?_
    refine lv_aload_n hx hb dX8_field_40 rfl (lv_at hl 0 rfl) ?_
    refine gf_X8_134 C h (hM 30 (by decide)) rfl dX8_field_41 ?_
    refine x_topi (y := nI ((a + 1) + 1)) (by rw [eu16]; exact gi_rm9) ?_
    refine cl_X8_137 C h (hM 30 (by decide)) rfl (c_X8_sign l D cy ad Ls u16 hM np ((a + 1) + 1) hnp160 (by omega) (by rw [eu16, gi_rmo (by decide)]; exact hnp)) (x_room (by omega)) ⟨Nat.zero_le _, Nat.zero_le _⟩ hl.1 (Nat.le_of_ble_eq_true rfl) dX8_field_44 (fun r18 u17 H locs hp h => ?_)
    obtain ⟨er18, eu17⟩ := hp; rw [eu17] at h; clear eu17 u17; refine x_topi er18 ?_; clear er18 r18
    refine x_topi (y := msgF (ga st 32) np ((a + 1) + 1)) (by rw [eu16, ga_rmo (by decide)]) ?_
    refine lv_bipush (v := nI 125) hx hb dX8_field_47 (by decide) ?_
    refine lv_icmp_ne (tgt := 56) hx hb dX8_field_49 (by decide) (fun c49 => ?_) (fun c49 => ?_)
    · refine lv_iconst (v := nI 0) hx hb dX8_field_56 (by decide) ?_
      refine x_topi (y := bi false) rfl ?_
      refine cl_X8_160 C h (hM 30 (by decide)) rfl (c_X8_expects l D cy ad Ls u16 hM (-1) (nI ((a + 1) + 1)) (by rw [eu16]; exact gi_rm10) (by rw [eu16]; exact gi_rm9) false) (x_room (by omega)) ⟨Nat.zero_le _, Nat.zero_le _⟩ hl.1 (Nat.le_of_ble_eq_true rfl) dX8_field_57 (fun u19 H locs hp h => ?_)
      have Eu19 := hp; clear hp
      rw [if_pos ⟨rfl, rfl⟩, eu16, rm_10] at Eu19
      refine lv_aload_n hx hb dX8_field_60 rfl (lv_at hl 0 rfl) ?_
      refine lv_dup hx hb dX8_field_61 rfl ?_
      refine gf_X8_134 C h (hM 30 (by decide)) rfl dX8_field_62 ?_
      refine x_topi (y := nI ((a + 1) + 1)) (by rw [Eu19]; exact gi_rm9) ?_
      refine lv_iconst (v := nI 1) hx hb dX8_field_65 (by decide) ?_
      refine x_addN hx hb dX8_field_66 ?_
      refine pf_X8_134 C h (hM 30 (by decide)) rfl dX8_field_67 (fun H locs u21 eu21 h => ?_)
      rw [Eu19, rm_9] at eu21
      refine lv_aload_n hx hb dX8_field_70 rfl (lv_at hl 0 rfl) ?_
      refine lv_dup hx hb dX8_field_71 rfl ?_
      refine gf_X8_154 C h (hM 30 (by decide)) rfl dX8_field_72 ?_
      refine x_topi (y := q) (by rw [eu21]; exact gi_rm12) ?_
      refine lv_iconst (v := nI 1) hx hb dX8_field_75 (by decide) ?_
      refine lv_iadd hx hb dX8_field_76 ?_
      refine pf_X8_154 C h (hM 30 (by decide)) rfl dX8_field_77 (fun H locs u22 eu22 h => ?_)
      rw [eu21, rm_12] at eu22
      exact x_vret C hr hlocks h (by rw [show pqF (ga st 32) np a = (a + 1 + 1, false) from by rw [pqF, c25]; simp only [c49, if_true, if_false, Bool.not_true, Bool.not_false, Bool.and_true, Bool.true_and, Bool.and_false, Bool.false_and, Bool.or_true, Bool.true_or, Bool.or_false, Bool.false_or, Bool.false_eq_true, eq_self, decide_true, decide_false]]; exact eu22) dX8_field_80
    · refine lv_iconst (v := nI 1) hx hb dX8_field_52 (by decide) ?_
      refine x_topi (y := bi true) rfl ?_
      refine lv_goto (tgt := 57) hx hb dX8_field_53 (by decide) ?_
      refine cl_X8_160 C h (hM 30 (by decide)) rfl (c_X8_expects l D cy ad Ls u16 hM (-1) (nI ((a + 1) + 1)) (by rw [eu16]; exact gi_rm10) (by rw [eu16]; exact gi_rm9) true) (x_room (by omega)) ⟨Nat.zero_le _, Nat.zero_le _⟩ hl.1 (Nat.le_of_ble_eq_true rfl) dX8_field_57 (fun u23 H locs hp h => ?_)
      have Eu23 := hp; clear hp
      rw [if_neg (fun q => absurd q.2 (by decide)), eu16] at Eu23
      refine lv_aload_n hx hb dX8_field_60 rfl (lv_at hl 0 rfl) ?_
      refine lv_dup hx hb dX8_field_61 rfl ?_
      refine gf_X8_134 C h (hM 30 (by decide)) rfl dX8_field_62 ?_
      refine x_topi (y := nI ((a + 1) + 1)) (by rw [Eu23]; exact gi_rm9) ?_
      refine lv_iconst (v := nI 1) hx hb dX8_field_65 (by decide) ?_
      refine x_addN hx hb dX8_field_66 ?_
      refine pf_X8_134 C h (hM 30 (by decide)) rfl dX8_field_67 (fun H locs u25 eu25 h => ?_)
      rw [Eu23, rm_9] at eu25
      refine lv_aload_n hx hb dX8_field_70 rfl (lv_at hl 0 rfl) ?_
      refine lv_dup hx hb dX8_field_71 rfl ?_
      refine gf_X8_154 C h (hM 30 (by decide)) rfl dX8_field_72 ?_
      refine x_topi (y := q) (by rw [eu25]; exact gi_rm12) ?_
      refine lv_iconst (v := nI 1) hx hb dX8_field_75 (by decide) ?_
      refine lv_iadd hx hb dX8_field_76 ?_
      refine pf_X8_154 C h (hM 30 (by decide)) rfl dX8_field_77 (fun H locs u26 eu26 h => ?_)
      rw [eu25, rm_12] at eu26
      exact x_vret C hr hlocks h (by rw [show pqF (ga st 32) np a = (a + 1 + 1, true) from by rw [pqF, c25]; simp only [c49, if_true, if_false, Bool.not_true, Bool.not_false, Bool.and_true, Bool.true_and, Bool.and_false, Bool.false_and, Bool.or_true, Bool.true_or, Bool.or_false, Bool.false_or, Bool.false_eq_true, eq_self, decide_true, decide_false]]; exact eu26) dX8_field_80

set_option maxHeartbeats 4000000 in
set_option maxRecDepth 100000 in
theorem c_X8_brace (l : Launch) (D : va_G) (cy : Nat → ClassId) (ad : Nat → Nat) (Ls : List Nat) (st : XS) (hM : ∀ k, k ∈ LsM → k ∈ Ls) (np : Nat) (hnp160 : np ≤ 160) (hnp : gi st 1 30 = nI np) (a : Nat) (ha : a < np) (bs : Nat) (hbs : bs + 160 ≤ 1120) (dn : Nat) (q : Int32) (al bg mi mk bo ot : Nat → Int32) (hd5 : dn ≤ 5) (lp : Nat → Bool) (hlp : ∀ k, k < dn → al k = bi (lp k)) : xMv l yX8_brace cX8_brace 4 5 D cy ad Ls (rqS st (nI a, -1, nI dn, q, al, bg, mi, mk, bo, ot)) [.ref (ad 30), .int (nI bs)] (fun u => u = rqS st (pqB (ga st 32) np (ilF lp dn) dn bs a q al bg mi mk bo ot)) := by
  intro sz
  refine x_of sz (by decide +kernel) (Nat.le_of_ble_eq_true rfl) ?_
  intro p e s m args below meth c ls hx hb hr hlocks C hsz h hl
  have hl : lv_has ls 4 [(0, .ref (ad 30)), (1, .int (nI bs))] := hl
  obtain ⟨H, eH⟩ : ∃ z, z = s.heap := ⟨_, rfl⟩
  obtain ⟨locs, eL⟩ : ∃ z : List Loc, z = [] := ⟨_, rfl⟩
  rw [← eH, ← eL] at h
  rw [← eH, ← eL]
  clear eH eL
  obtain ⟨v, hv⟩ : ∃ v, v = rqS st (nI a, -1, nI dn, q, al, bg, mi, mk, bo, ot) := ⟨_, rfl⟩
  rw [← hv] at h
  refine lv_aload_n hx hb dX8_brace_0 rfl (lv_at hl 0 rfl) ?_
  refine gf_X8_134 C h (hM 30 (by decide)) rfl dX8_brace_1 ?_
  refine x_topi (y := nI a) (by rw [hv]; exact gi_rm9) ?_
  refine lv_istore_n (lv' := [(2, .int (nI a)), (0, .ref (ad 30)), (1, .int (nI bs))]) hx hb dX8_brace_4 rfl hl (by decide) rfl (fun ls hl => ?_)
  refine lv_aload_n hx hb dX8_brace_5 rfl (lv_at hl 1 rfl) ?_
  refine lv_dup hx hb dX8_brace_6 rfl ?_
  refine gf_X8_134 C h (hM 30 (by decide)) rfl dX8_brace_7 ?_
  refine x_topi (y := nI a) (by rw [hv]; exact gi_rm9) ?_
  refine lv_iconst (v := nI 1) hx hb dX8_brace_10 (by decide) ?_
  refine x_addN hx hb dX8_brace_11 ?_
  refine pf_X8_134 C h (hM 30 (by decide)) rfl dX8_brace_12 (fun H locs u1 eu1 h => ?_)
  rw [hv, rm_9] at eu1
  refine lv_aload_n hx hb dX8_brace_15 rfl (lv_at hl 1 rfl) ?_
  refine lv_aload_n hx hb dX8_brace_16 rfl (lv_at hl 1 rfl) ?_
  refine gf_X8_134 C h (hM 30 (by decide)) rfl dX8_brace_17 ?_
  refine x_topi (y := nI (a + 1)) (by rw [eu1]; exact gi_rm9) ?_
  refine cl_X8_137 C h (hM 30 (by decide)) rfl (c_X8_sign l D cy ad Ls u1 hM np (a + 1) hnp160 (by omega) (by rw [eu1, gi_rmo (by decide)]; exact hnp)) (x_room (by omega)) ⟨Nat.zero_le _, Nat.zero_le _⟩ hl.1 (Nat.le_of_ble_eq_true rfl) dX8_brace_20 (fun r3 u2 H locs hp h => ?_)
  obtain ⟨er3, eu2⟩ := hp; rw [eu2] at h; clear eu2 u2; refine x_topi er3 ?_; clear er3 r3
  refine x_topi (y := msgF (ga st 32) np (a + 1)) (by rw [eu1, ga_rmo (by decide)]) ?_
  refine lv_istore_n (lv' := [(3, .int (msgF (ga st 32) np (a + 1))), (2, .int (nI a)), (0, .ref (ad 30)), (1, .int (nI bs))]) hx hb dX8_brace_23 rfl hl (by decide) rfl (fun ls hl => ?_)
  refine lv_iload_n hx hb dX8_brace_24 rfl (lv_at hl 0 rfl) ?_
  refine lv_bipush (v := nI 42) hx hb dX8_brace_25 (by decide) ?_
  refine lv_icmp_ne (tgt := 76) hx hb dX8_brace_27 (by decide) (fun c27 => ?_) (fun c27 => ?_)
  · refine lv_iload_n hx hb dX8_brace_76 rfl (lv_at hl 0 rfl) ?_
    refine lv_bipush (v := nI 63) hx hb dX8_brace_77 (by decide) ?_
    refine lv_icmp_ne (tgt := 110) hx hb dX8_brace_79 (by decide) (fun c79 => ?_) (fun c79 => ?_)
    · refine lv_aload_n hx hb dX8_brace_110 rfl (lv_at hl 2 rfl) ?_
      refine lv_iload_n hx hb dX8_brace_111 rfl (lv_at hl 0 rfl) ?_
      refine cl_X8_145 C h (hM 30 (by decide)) rfl (c_X8_isName l D cy ad Ls u1 hM dn (by omega) (by rw [eu1]; exact gi_rm11) lp (by rw [eu1, ga_rm43]; exact hlp) (msgF (ga st 32) np (a + 1))) (x_room (by omega)) ⟨Nat.zero_le _, Nat.zero_le _⟩ hl.1 (Nat.le_of_ble_eq_true rfl) dX8_brace_112 (fun r5 u4 H locs hp h => ?_)
      obtain ⟨er5, eu4⟩ := hp; rw [eu4] at h; clear eu4 u4; refine x_topi er5 ?_; clear er5 r5
      refine x_ifb_eq (tgt := 125) hx hb dX8_brace_115 (by decide) (fun c115 => ?_) (fun c115 => ?_)
      · refine lv_aload_n hx hb dX8_brace_125 rfl (lv_at hl 2 rfl) ?_
        refine lv_aload_n hx hb dX8_brace_126 rfl (lv_at hl 2 rfl) ?_
        refine gf_X8_134 C h (hM 30 (by decide)) rfl dX8_brace_127 ?_
        refine x_topi (y := nI (a + 1)) (by rw [eu1]; exact gi_rm9) ?_
        refine pf_X8_148 C h (hM 30 (by decide)) rfl dX8_brace_130 (fun H locs u6 eu6 h => ?_)
        rw [eu1, rm_10] at eu6
        exact x_vret C hr hlocks h (by rw [pqB, if_neg (fun q9 => c27 q9.1), if_neg (fun q9 => c79 q9.1), c115]; exact eu6) dX8_brace_133
      · refine lv_aload_n hx hb dX8_brace_118 rfl (lv_at hl 2 rfl) ?_
        rw [eu1] at h
        refine cl_X8_172 C h (hM 30 (by decide)) rfl (c_X8_field l D cy ad Ls st hM np hnp160 hnp (a + 1) (by omega) (nI dn) q al bg mi mk bo ot) (x_room (by omega)) ⟨Nat.zero_le _, Nat.zero_le _⟩ hl.1 (Nat.le_of_ble_eq_true rfl) dX8_brace_119 (fun u7 H locs hp h => ?_)
        have Eu7 := hp; clear hp
        refine lv_goto (tgt := 133) hx hb dX8_brace_122 (by decide) ?_
        exact x_vret C hr hlocks h (by rw [pqB, if_neg (fun q9 => c27 q9.1), if_neg (fun q9 => c79 q9.1), c115]; exact Eu7) dX8_brace_133
    · refine lv_aload_n hx hb dX8_brace_82 rfl (lv_at hl 2 rfl) ?_
      refine gf_X8_127 C h (hM 30 (by decide)) rfl dX8_brace_83 ?_
      refine x_topi (y := nI dn) (by rw [eu1]; exact gi_rm11) ?_
      refine lv_iconst (v := nI 5) hx hb dX8_brace_86 (by decide) ?_
      refine x_icmpN_ge (tgt := 110) hx hb dX8_brace_87 (by decide) (by omega) (by omega) (fun c87 => ?_) (fun c87 => ?_)
      · refine lv_aload_n hx hb dX8_brace_110 rfl (lv_at hl 2 rfl) ?_
        refine lv_iload_n hx hb dX8_brace_111 rfl (lv_at hl 0 rfl) ?_
        refine cl_X8_145 C h (hM 30 (by decide)) rfl (c_X8_isName l D cy ad Ls u1 hM dn (by omega) (by rw [eu1]; exact gi_rm11) lp (by rw [eu1, ga_rm43]; exact hlp) (msgF (ga st 32) np (a + 1))) (x_room (by omega)) ⟨Nat.zero_le _, Nat.zero_le _⟩ hl.1 (Nat.le_of_ble_eq_true rfl) dX8_brace_112 (fun r10 u9 H locs hp h => ?_)
        obtain ⟨er10, eu9⟩ := hp; rw [eu9] at h; clear eu9 u9; refine x_topi er10 ?_; clear er10 r10
        refine x_ifb_eq (tgt := 125) hx hb dX8_brace_115 (by decide) (fun c115 => ?_) (fun c115 => ?_)
        · refine lv_aload_n hx hb dX8_brace_125 rfl (lv_at hl 2 rfl) ?_
          refine lv_aload_n hx hb dX8_brace_126 rfl (lv_at hl 2 rfl) ?_
          refine gf_X8_134 C h (hM 30 (by decide)) rfl dX8_brace_127 ?_
          refine x_topi (y := nI (a + 1)) (by rw [eu1]; exact gi_rm9) ?_
          refine pf_X8_148 C h (hM 30 (by decide)) rfl dX8_brace_130 (fun H locs u11 eu11 h => ?_)
          rw [eu1, rm_10] at eu11
          exact x_vret C hr hlocks h (by rw [pqB, if_neg (fun q9 => c27 q9.1), if_neg (fun q9 => absurd q9.2 (Nat.not_lt.mpr c87)), c115]; exact eu11) dX8_brace_133
        · refine lv_aload_n hx hb dX8_brace_118 rfl (lv_at hl 2 rfl) ?_
          rw [eu1] at h
          refine cl_X8_172 C h (hM 30 (by decide)) rfl (c_X8_field l D cy ad Ls st hM np hnp160 hnp (a + 1) (by omega) (nI dn) q al bg mi mk bo ot) (x_room (by omega)) ⟨Nat.zero_le _, Nat.zero_le _⟩ hl.1 (Nat.le_of_ble_eq_true rfl) dX8_brace_119 (fun u12 H locs hp h => ?_)
          have Eu12 := hp; clear hp
          refine lv_goto (tgt := 133) hx hb dX8_brace_122 (by decide) ?_
          exact x_vret C hr hlocks h (by rw [pqB, if_neg (fun q9 => c27 q9.1), if_neg (fun q9 => absurd q9.2 (Nat.not_lt.mpr c87)), c115]; exact Eu12) dX8_brace_133
      · refine lv_aload_n hx hb dX8_brace_90 rfl (lv_at hl 2 rfl) ?_
        refine lv_iload_n hx hb dX8_brace_91 rfl (lv_at hl 1 rfl) ?_
        have hlt : a + 1 < np := msg_lt c79 (by decide)
        rw [eu1] at h
        obtain ⟨hc1, hc2⟩ := pqC_le (pg := (ga st 32)) (np := np) (il := (ilF lp dn)) (a + 1)
        replace hc2 := hc2 (by omega)
        refine cl_X8_168 C h (hM 30 (by decide)) rfl (c_X8_choice l D cy ad Ls st hM np hnp160 hnp (a + 1) (by omega) dn (by omega) q al bg mi mk bo ot (by omega) lp hlp (nI a)) (x_room (by omega)) ⟨Nat.zero_le _, Nat.zero_le _⟩ hl.1 (Nat.le_of_ble_eq_true rfl) dX8_brace_92 (fun u14 H locs hp h => ?_)
        have Eu14 := hp; clear hp
        rcases hC : pqC (ga st 32) np (ilF lp dn) (a + 1) with ⟨ca, _ | _⟩
        · rw [hC] at Eu14 hc1 hc2; change _ ≤ ca at hc1; change ca ≤ np at hc2
          replace Eu14 : u14 = rqS st (nI ca, nI ca, nI dn, q, al, bg, mi, mk, bo, ot) := Eu14
          refine lv_aload_n hx hb dX8_brace_95 rfl (lv_at hl 2 rfl) ?_
          refine gf_X8_22 C h (hM 30 (by decide)) rfl (k2 := 37) rfl dX8_brace_96 ?_
          refine lv_iload_n hx hb dX8_brace_99 rfl (lv_at hl 3 rfl) ?_
          refine lv_iload_n hx hb dX8_brace_100 rfl (lv_at hl 1 rfl) ?_
          refine x_addN hx hb dX8_brace_101 ?_
          refine lv_aload_n hx hb dX8_brace_102 rfl (lv_at hl 2 rfl) ?_
          refine gf_X8_134 C h (hM 30 (by decide)) rfl dX8_brace_103 ?_
          refine x_topi (y := nI ca) (by rw [Eu14]; exact gi_rm9) ?_
          refine x_ast C h (hM 37 (by decide)) (n := 1120) rfl (bs + a) (by omega) (by decide) rfl dX8_brace_106 (fun H locs u16 eu16 h => ?_)
          rw [Eu14, ga_rm37, rm_37] at eu16
          refine lv_goto (tgt := 133) hx hb dX8_brace_107 (by decide) ?_
          exact x_vret C hr hlocks h (by rw [pqB, if_neg (fun q9 => c27 q9.1), if_pos ⟨c79, c87⟩, hC]; exact eu16) dX8_brace_133
        · rw [hC] at Eu14 hc1 hc2; change _ ≤ ca at hc1; change ca ≤ np at hc2
          replace Eu14 : u14 = rqS st (nI ca, -1, nI (dn + 1), q + nI 1, upd al dn (bi false), upd bg dn (nI a), upd mi dn (-1), mk, bo, ot) := Eu14
          refine lv_aload_n hx hb dX8_brace_95 rfl (lv_at hl 2 rfl) ?_
          refine gf_X8_22 C h (hM 30 (by decide)) rfl (k2 := 37) rfl dX8_brace_96 ?_
          refine lv_iload_n hx hb dX8_brace_99 rfl (lv_at hl 3 rfl) ?_
          refine lv_iload_n hx hb dX8_brace_100 rfl (lv_at hl 1 rfl) ?_
          refine x_addN hx hb dX8_brace_101 ?_
          refine lv_aload_n hx hb dX8_brace_102 rfl (lv_at hl 2 rfl) ?_
          refine gf_X8_134 C h (hM 30 (by decide)) rfl dX8_brace_103 ?_
          refine x_topi (y := nI ca) (by rw [Eu14]; exact gi_rm9) ?_
          refine x_ast C h (hM 37 (by decide)) (n := 1120) rfl (bs + a) (by omega) (by decide) rfl dX8_brace_106 (fun H locs u17 eu17 h => ?_)
          rw [Eu14, ga_rm37, rm_37] at eu17
          refine lv_goto (tgt := 133) hx hb dX8_brace_107 (by decide) ?_
          exact x_vret C hr hlocks h (by rw [pqB, if_neg (fun q9 => c27 q9.1), if_pos ⟨c79, c87⟩, hC]; exact eu17) dX8_brace_133
  · refine lv_aload_n hx hb dX8_brace_30 rfl (lv_at hl 2 rfl) ?_
    refine gf_X8_127 C h (hM 30 (by decide)) rfl dX8_brace_31 ?_
    refine x_topi (y := nI dn) (by rw [eu1]; exact gi_rm11) ?_
    refine lv_iconst (v := nI 5) hx hb dX8_brace_34 (by decide) ?_
    refine x_icmpN_ge (tgt := 76) hx hb dX8_brace_35 (by decide) (by omega) (by omega) (fun c35 => ?_) (fun c35 => ?_)
    · refine lv_iload_n hx hb dX8_brace_76 rfl (lv_at hl 0 rfl) ?_
      refine lv_bipush (v := nI 63) hx hb dX8_brace_77 (by decide) ?_
      refine lv_icmp_ne (tgt := 110) hx hb dX8_brace_79 (by decide) (fun _ => ?_) (fun q9 => absurd (c27.symm.trans q9) (by decide))
      refine lv_aload_n hx hb dX8_brace_110 rfl (lv_at hl 2 rfl) ?_
      refine lv_iload_n hx hb dX8_brace_111 rfl (lv_at hl 0 rfl) ?_
      refine cl_X8_145 C h (hM 30 (by decide)) rfl (c_X8_isName l D cy ad Ls u1 hM dn (by omega) (by rw [eu1]; exact gi_rm11) lp (by rw [eu1, ga_rm43]; exact hlp) (msgF (ga st 32) np (a + 1))) (x_room (by omega)) ⟨Nat.zero_le _, Nat.zero_le _⟩ hl.1 (Nat.le_of_ble_eq_true rfl) dX8_brace_112 (fun r19 u18 H locs hp h => ?_)
      obtain ⟨er19, eu18⟩ := hp; rw [eu18] at h; clear eu18 u18; refine x_topi er19 ?_; clear er19 r19
      refine x_ifb_eq (tgt := 125) hx hb dX8_brace_115 (by decide) (fun c115 => ?_) (fun c115 => ?_)
      · refine lv_aload_n hx hb dX8_brace_125 rfl (lv_at hl 2 rfl) ?_
        refine lv_aload_n hx hb dX8_brace_126 rfl (lv_at hl 2 rfl) ?_
        refine gf_X8_134 C h (hM 30 (by decide)) rfl dX8_brace_127 ?_
        refine x_topi (y := nI (a + 1)) (by rw [eu1]; exact gi_rm9) ?_
        refine pf_X8_148 C h (hM 30 (by decide)) rfl dX8_brace_130 (fun H locs u20 eu20 h => ?_)
        rw [eu1, rm_10] at eu20
        exact x_vret C hr hlocks h (by rw [pqB, if_neg (fun q9 => absurd q9.2.1 (Nat.not_lt.mpr c35)), if_neg (fun q9 => absurd (c27.symm.trans q9.1) (by decide)), c115]; exact eu20) dX8_brace_133
      · refine lv_aload_n hx hb dX8_brace_118 rfl (lv_at hl 2 rfl) ?_
        rw [eu1] at h
        refine cl_X8_172 C h (hM 30 (by decide)) rfl (c_X8_field l D cy ad Ls st hM np hnp160 hnp (a + 1) (by omega) (nI dn) q al bg mi mk bo ot) (x_room (by omega)) ⟨Nat.zero_le _, Nat.zero_le _⟩ hl.1 (Nat.le_of_ble_eq_true rfl) dX8_brace_119 (fun u21 H locs hp h => ?_)
        have Eu21 := hp; clear hp
        refine lv_goto (tgt := 133) hx hb dX8_brace_122 (by decide) ?_
        exact x_vret C hr hlocks h (by rw [pqB, if_neg (fun q9 => absurd q9.2.1 (Nat.not_lt.mpr c35)), if_neg (fun q9 => absurd (c27.symm.trans q9.1) (by decide)), c115]; exact Eu21) dX8_brace_133
    · refine lv_aload_n hx hb dX8_brace_38 rfl (lv_at hl 2 rfl) ?_
      refine cl_X8_130 C h (hM 30 (by decide)) rfl (c_X8_isInLoop l D cy ad Ls u1 hM dn (by omega) (by rw [eu1]; exact gi_rm11) lp (by rw [eu1, ga_rm43]; exact hlp)) (x_room (by omega)) ⟨Nat.zero_le _, Nat.zero_le _⟩ hl.1 (Nat.le_of_ble_eq_true rfl) dX8_brace_39 (fun r24 u23 H locs hp h => ?_)
      obtain ⟨er24, eu23⟩ := hp; rw [eu23] at h; clear eu23 u23; refine x_topi er24 ?_; clear er24 r24
      refine x_ifb_ne (tgt := 76) hx hb dX8_brace_42 (by decide) (fun c42 => ?_) (fun c42 => ?_)
      · refine lv_iload_n hx hb dX8_brace_76 rfl (lv_at hl 0 rfl) ?_
        refine lv_bipush (v := nI 63) hx hb dX8_brace_77 (by decide) ?_
        refine lv_icmp_ne (tgt := 110) hx hb dX8_brace_79 (by decide) (fun _ => ?_) (fun q9 => absurd (c27.symm.trans q9) (by decide))
        refine lv_aload_n hx hb dX8_brace_110 rfl (lv_at hl 2 rfl) ?_
        refine lv_iload_n hx hb dX8_brace_111 rfl (lv_at hl 0 rfl) ?_
        refine cl_X8_145 C h (hM 30 (by decide)) rfl (c_X8_isName l D cy ad Ls u1 hM dn (by omega) (by rw [eu1]; exact gi_rm11) lp (by rw [eu1, ga_rm43]; exact hlp) (msgF (ga st 32) np (a + 1))) (x_room (by omega)) ⟨Nat.zero_le _, Nat.zero_le _⟩ hl.1 (Nat.le_of_ble_eq_true rfl) dX8_brace_112 (fun r26 u25 H locs hp h => ?_)
        obtain ⟨er26, eu25⟩ := hp; rw [eu25] at h; clear eu25 u25; refine x_topi er26 ?_; clear er26 r26
        refine x_ifb_eq (tgt := 125) hx hb dX8_brace_115 (by decide) (fun c115 => ?_) (fun c115 => ?_)
        · refine lv_aload_n hx hb dX8_brace_125 rfl (lv_at hl 2 rfl) ?_
          refine lv_aload_n hx hb dX8_brace_126 rfl (lv_at hl 2 rfl) ?_
          refine gf_X8_134 C h (hM 30 (by decide)) rfl dX8_brace_127 ?_
          refine x_topi (y := nI (a + 1)) (by rw [eu1]; exact gi_rm9) ?_
          refine pf_X8_148 C h (hM 30 (by decide)) rfl dX8_brace_130 (fun H locs u27 eu27 h => ?_)
          rw [eu1, rm_10] at eu27
          exact x_vret C hr hlocks h (by rw [pqB, if_neg (fun q9 => by rw [c42] at q9; exact absurd q9.2.2 (by decide)), if_neg (fun q9 => absurd (c27.symm.trans q9.1) (by decide)), c115]; exact eu27) dX8_brace_133
        · refine lv_aload_n hx hb dX8_brace_118 rfl (lv_at hl 2 rfl) ?_
          rw [eu1] at h
          refine cl_X8_172 C h (hM 30 (by decide)) rfl (c_X8_field l D cy ad Ls st hM np hnp160 hnp (a + 1) (by omega) (nI dn) q al bg mi mk bo ot) (x_room (by omega)) ⟨Nat.zero_le _, Nat.zero_le _⟩ hl.1 (Nat.le_of_ble_eq_true rfl) dX8_brace_119 (fun u28 H locs hp h => ?_)
          have Eu28 := hp; clear hp
          refine lv_goto (tgt := 133) hx hb dX8_brace_122 (by decide) ?_
          exact x_vret C hr hlocks h (by rw [pqB, if_neg (fun q9 => by rw [c42] at q9; exact absurd q9.2.2 (by decide)), if_neg (fun q9 => absurd (c27.symm.trans q9.1) (by decide)), c115]; exact Eu28) dX8_brace_133
      · refine lv_aload_n hx hb dX8_brace_45 rfl (lv_at hl 2 rfl) ?_
        refine lv_dup hx hb dX8_brace_46 rfl ?_
        refine gf_X8_134 C h (hM 30 (by decide)) rfl dX8_brace_47 ?_
        refine x_topi (y := nI (a + 1)) (by rw [eu1]; exact gi_rm9) ?_
        refine lv_iconst (v := nI 1) hx hb dX8_brace_50 (by decide) ?_
        refine x_addN hx hb dX8_brace_51 ?_
        refine pf_X8_134 C h (hM 30 (by decide)) rfl dX8_brace_52 (fun H locs u30 eu30 h => ?_)
        rw [eu1, rm_9] at eu30
        refine lv_aload_n hx hb dX8_brace_55 rfl (lv_at hl 2 rfl) ?_
        refine lv_iconst (v := nI 1) hx hb dX8_brace_56 (by decide) ?_
        refine x_topi (y := bi true) rfl ?_
        refine lv_iload_n hx hb dX8_brace_57 rfl (lv_at hl 1 rfl) ?_
        rw [eu30] at h
        refine cl_X8_164 C h (hM 30 (by decide)) rfl (c_X8_opens l D cy ad Ls st hM (nI ((a + 1) + 1)) (-1) dn (by omega) q al bg mi mk bo ot true (nI a)) (x_room (by omega)) ⟨Nat.zero_le _, Nat.zero_le _⟩ hl.1 (Nat.le_of_ble_eq_true rfl) dX8_brace_58 (fun u31 H locs hp h => ?_)
        have Eu31 := hp; clear hp
        refine lv_aload_n hx hb dX8_brace_61 rfl (lv_at hl 2 rfl) ?_
        refine gf_X8_22 C h (hM 30 (by decide)) rfl (k2 := 37) rfl dX8_brace_62 ?_
        refine lv_iload_n hx hb dX8_brace_65 rfl (lv_at hl 3 rfl) ?_
        refine lv_iload_n hx hb dX8_brace_66 rfl (lv_at hl 1 rfl) ?_
        refine x_addN hx hb dX8_brace_67 ?_
        refine lv_aload_n hx hb dX8_brace_68 rfl (lv_at hl 2 rfl) ?_
        refine gf_X8_134 C h (hM 30 (by decide)) rfl dX8_brace_69 ?_
        refine x_topi (y := nI ((a + 1) + 1)) (by rw [Eu31]; exact gi_rm9) ?_
        refine x_ast C h (hM 37 (by decide)) (n := 1120) rfl (bs + a) (by omega) (by decide) rfl dX8_brace_72 (fun H locs u33 eu33 h => ?_)
        rw [Eu31, ga_rm37, rm_37] at eu33
        refine lv_goto (tgt := 133) hx hb dX8_brace_73 (by decide) ?_
        exact x_vret C hr hlocks h (by rw [pqB, if_pos ⟨c27, c35, c42⟩]; exact eu33) dX8_brace_133

set_option maxHeartbeats 4000000 in
set_option maxRecDepth 100000 in
theorem c_X8_closes (l : Launch) (D : va_G) (cy : Nat → ClassId) (ad : Nat → Nat) (Ls : List Nat) (st : XS) (hM : ∀ k, k ∈ LsM → k ∈ Ls) (a : Nat) (ha : a < 160) (bs : Nat) (hbs : bs + 160 ≤ 1120) (F9 : Int32) (dn : Nat) (hdn : dn < 5) (q : Int32) (al bg mi mk bo ot : Nat → Int32) (b0 : Nat) (hb0 : b0 < 160) (hbg : bg dn = nI b0) (mo : Option Nat) (hmo : ∀ j, mo = some j → j < 160) (hmi : mi dn = oI mo) : xMv l yX8_closes cX8_closes 3 0 D cy ad Ls (rqS st (nI a, F9, nI (dn + 1), q, al, bg, mi, mk, bo, ot)) [.ref (ad 30), .int (nI bs)] (fun u => u = rqS st (nI (a + 1), F9, nI dn, q, al, bg, mi, upd mk (bs + a) (nI 3), bo, pqO bs b0 a mo ot)) := by
  intro sz
  refine x_of sz (by decide +kernel) (Nat.le_of_ble_eq_true rfl) ?_
  intro p e s m args below meth c ls hx hb hr hlocks C hsz h hl
  have hl : lv_has ls 3 [(0, .ref (ad 30)), (1, .int (nI bs))] := hl
  obtain ⟨H, eH⟩ : ∃ z, z = s.heap := ⟨_, rfl⟩
  obtain ⟨locs, eL⟩ : ∃ z : List Loc, z = [] := ⟨_, rfl⟩
  rw [← eH, ← eL] at h
  rw [← eH, ← eL]
  clear eH eL
  obtain ⟨v, hv⟩ : ∃ v, v = rqS st (nI a, F9, nI (dn + 1), q, al, bg, mi, mk, bo, ot) := ⟨_, rfl⟩
  rw [← hv] at h
  rcases mo with _ | j
  · have hmj : mi dn = -1 := hmi
    refine lv_aload_n hx hb dX8_closes_0 rfl (lv_at hl 0 rfl) ?_
    refine lv_dup hx hb dX8_closes_1 rfl ?_
    refine gf_X8_127 C h (hM 30 (by decide)) rfl dX8_closes_2 ?_
    refine x_topi (y := nI (dn + 1)) (by rw [hv]; exact gi_rm11) ?_
    refine lv_iconst (v := nI 1) hx hb dX8_closes_5 (by decide) ?_
    refine lv_isub hx hb dX8_closes_6 ?_
    refine x_topi (y := nI dn) (pk_sub (by omega)) ?_
    refine pf_X8_127 C h (hM 30 (by decide)) rfl dX8_closes_7 (fun H locs u1 eu1 h => ?_)
    rw [hv, rm_11] at eu1
    refine lv_aload_n hx hb dX8_closes_10 rfl (lv_at hl 0 rfl) ?_
    refine gf_X8_19 C h (hM 30 (by decide)) rfl (k2 := 36) rfl dX8_closes_11 ?_
    refine lv_iload_n hx hb dX8_closes_14 rfl (lv_at hl 1 rfl) ?_
    refine lv_aload_n hx hb dX8_closes_15 rfl (lv_at hl 0 rfl) ?_
    refine gf_X8_134 C h (hM 30 (by decide)) rfl dX8_closes_16 ?_
    refine x_topi (y := nI a) (by rw [eu1]; exact gi_rm9) ?_
    refine x_addN hx hb dX8_closes_19 ?_
    refine lv_iconst (v := nI 3) hx hb dX8_closes_20 (by decide) ?_
    refine x_ast C h (hM 36 (by decide)) (n := 1120) rfl (bs + a) (by omega) (by decide) rfl dX8_closes_21 (fun H locs u2 eu2 h => ?_)
    rw [eu1, ga_rm36, rm_36] at eu2
    refine lv_aload_n hx hb dX8_closes_22 rfl (lv_at hl 0 rfl) ?_
    refine gf_X8_35 C h (hM 30 (by decide)) rfl (k2 := 45) rfl dX8_closes_23 ?_
    refine lv_aload_n hx hb dX8_closes_26 rfl (lv_at hl 0 rfl) ?_
    refine gf_X8_127 C h (hM 30 (by decide)) rfl dX8_closes_27 ?_
    refine x_topi (y := nI dn) (by rw [eu2]; exact gi_rm11) ?_
    refine x_ald C h (hM 45 (by decide)) (n := 5) rfl dn (by omega) (by decide) rfl dX8_closes_30 ?_
    refine x_topi (y := mi dn) (by rw [eu2, ga_rm45]) ?_
    refine x_topi (y := (-1)) hmj ?_
    refine lv_istore_n (lv' := [(2, .int (-1)), (0, .ref (ad 30)), (1, .int (nI bs))]) hx hb dX8_closes_31 rfl hl (by decide) rfl (fun ls hl => ?_)
    refine lv_aload_n hx hb dX8_closes_32 rfl (lv_at hl 1 rfl) ?_
    refine gf_X8_25 C h (hM 30 (by decide)) rfl (k2 := 38) rfl dX8_closes_33 ?_
    refine lv_iload_n hx hb dX8_closes_36 rfl (lv_at hl 2 rfl) ?_
    refine lv_aload_n hx hb dX8_closes_37 rfl (lv_at hl 1 rfl) ?_
    refine gf_X8_32 C h (hM 30 (by decide)) rfl (k2 := 44) rfl dX8_closes_38 ?_
    refine lv_aload_n hx hb dX8_closes_41 rfl (lv_at hl 1 rfl) ?_
    refine gf_X8_127 C h (hM 30 (by decide)) rfl dX8_closes_42 ?_
    refine x_topi (y := nI dn) (by rw [eu2]; exact gi_rm11) ?_
    refine x_ald C h (hM 44 (by decide)) (n := 5) rfl dn (by omega) (by decide) rfl dX8_closes_45 ?_
    refine x_topi (y := bg dn) (by rw [eu2, ga_rm44]) ?_
    refine x_topi (y := nI b0) hbg ?_
    refine x_addN hx hb dX8_closes_46 ?_
    refine lv_iload_n hx hb dX8_closes_47 rfl (lv_at hl 0 rfl) ?_
    refine lv_iconst (v := (-1)) hx hb dX8_closes_48 (by decide) ?_
    refine lv_icmp_ne (tgt := 61) hx hb dX8_closes_49 (by decide) (fun q9 => absurd rfl q9) (fun _ => ?_)
    refine lv_aload_n hx hb dX8_closes_52 rfl (lv_at hl 1 rfl) ?_
    refine gf_X8_134 C h (hM 30 (by decide)) rfl dX8_closes_53 ?_
    refine x_topi (y := nI a) (by rw [eu2]; exact gi_rm9) ?_
    refine lv_iconst (v := nI 1) hx hb dX8_closes_56 (by decide) ?_
    refine x_addN hx hb dX8_closes_57 ?_
    refine lv_goto (tgt := 64) hx hb dX8_closes_58 (by decide) ?_
    refine x_ast C h (hM 38 (by decide)) (n := 1120) rfl (bs + b0) (by omega) (by decide) rfl dX8_closes_64 (fun H locs u3 eu3 h => ?_)
    rw [eu2, ga_rm38, rm_38] at eu3
    refine lv_iload_n hx hb dX8_closes_65 rfl (lv_at hl 0 rfl) ?_
    refine lv_iconst (v := (-1)) hx hb dX8_closes_66 (by decide) ?_
    refine lv_icmp_eq (tgt := 84) hx hb dX8_closes_67 (by decide) (fun _ => ?_) (fun q9 => absurd rfl q9)
    refine lv_aload_n hx hb dX8_closes_84 rfl (lv_at hl 1 rfl) ?_
    refine lv_dup hx hb dX8_closes_85 rfl ?_
    refine gf_X8_134 C h (hM 30 (by decide)) rfl dX8_closes_86 ?_
    refine x_topi (y := nI a) (by rw [eu3]; exact gi_rm9) ?_
    refine lv_iconst (v := nI 1) hx hb dX8_closes_89 (by decide) ?_
    refine x_addN hx hb dX8_closes_90 ?_
    refine pf_X8_134 C h (hM 30 (by decide)) rfl dX8_closes_91 (fun H locs u4 eu4 h => ?_)
    rw [eu3, rm_9] at eu4
    exact x_vret C hr hlocks h eu4 dX8_closes_94
  · have hmj : mi dn = nI j := hmi
    have hj := hmo j rfl
    refine lv_aload_n hx hb dX8_closes_0 rfl (lv_at hl 0 rfl) ?_
    refine lv_dup hx hb dX8_closes_1 rfl ?_
    refine gf_X8_127 C h (hM 30 (by decide)) rfl dX8_closes_2 ?_
    refine x_topi (y := nI (dn + 1)) (by rw [hv]; exact gi_rm11) ?_
    refine lv_iconst (v := nI 1) hx hb dX8_closes_5 (by decide) ?_
    refine lv_isub hx hb dX8_closes_6 ?_
    refine x_topi (y := nI dn) (pk_sub (by omega)) ?_
    refine pf_X8_127 C h (hM 30 (by decide)) rfl dX8_closes_7 (fun H locs u5 eu5 h => ?_)
    rw [hv, rm_11] at eu5
    refine lv_aload_n hx hb dX8_closes_10 rfl (lv_at hl 0 rfl) ?_
    refine gf_X8_19 C h (hM 30 (by decide)) rfl (k2 := 36) rfl dX8_closes_11 ?_
    refine lv_iload_n hx hb dX8_closes_14 rfl (lv_at hl 1 rfl) ?_
    refine lv_aload_n hx hb dX8_closes_15 rfl (lv_at hl 0 rfl) ?_
    refine gf_X8_134 C h (hM 30 (by decide)) rfl dX8_closes_16 ?_
    refine x_topi (y := nI a) (by rw [eu5]; exact gi_rm9) ?_
    refine x_addN hx hb dX8_closes_19 ?_
    refine lv_iconst (v := nI 3) hx hb dX8_closes_20 (by decide) ?_
    refine x_ast C h (hM 36 (by decide)) (n := 1120) rfl (bs + a) (by omega) (by decide) rfl dX8_closes_21 (fun H locs u6 eu6 h => ?_)
    rw [eu5, ga_rm36, rm_36] at eu6
    refine lv_aload_n hx hb dX8_closes_22 rfl (lv_at hl 0 rfl) ?_
    refine gf_X8_35 C h (hM 30 (by decide)) rfl (k2 := 45) rfl dX8_closes_23 ?_
    refine lv_aload_n hx hb dX8_closes_26 rfl (lv_at hl 0 rfl) ?_
    refine gf_X8_127 C h (hM 30 (by decide)) rfl dX8_closes_27 ?_
    refine x_topi (y := nI dn) (by rw [eu6]; exact gi_rm11) ?_
    refine x_ald C h (hM 45 (by decide)) (n := 5) rfl dn (by omega) (by decide) rfl dX8_closes_30 ?_
    refine x_topi (y := mi dn) (by rw [eu6, ga_rm45]) ?_
    refine x_topi (y := nI j) hmj ?_
    refine lv_istore_n (lv' := [(2, .int (nI j)), (0, .ref (ad 30)), (1, .int (nI bs))]) hx hb dX8_closes_31 rfl hl (by decide) rfl (fun ls hl => ?_)
    refine lv_aload_n hx hb dX8_closes_32 rfl (lv_at hl 1 rfl) ?_
    refine gf_X8_25 C h (hM 30 (by decide)) rfl (k2 := 38) rfl dX8_closes_33 ?_
    refine lv_iload_n hx hb dX8_closes_36 rfl (lv_at hl 2 rfl) ?_
    refine lv_aload_n hx hb dX8_closes_37 rfl (lv_at hl 1 rfl) ?_
    refine gf_X8_32 C h (hM 30 (by decide)) rfl (k2 := 44) rfl dX8_closes_38 ?_
    refine lv_aload_n hx hb dX8_closes_41 rfl (lv_at hl 1 rfl) ?_
    refine gf_X8_127 C h (hM 30 (by decide)) rfl dX8_closes_42 ?_
    refine x_topi (y := nI dn) (by rw [eu6]; exact gi_rm11) ?_
    refine x_ald C h (hM 44 (by decide)) (n := 5) rfl dn (by omega) (by decide) rfl dX8_closes_45 ?_
    refine x_topi (y := bg dn) (by rw [eu6, ga_rm44]) ?_
    refine x_topi (y := nI b0) hbg ?_
    refine x_addN hx hb dX8_closes_46 ?_
    refine lv_iload_n hx hb dX8_closes_47 rfl (lv_at hl 0 rfl) ?_
    refine lv_iconst (v := (-1)) hx hb dX8_closes_48 (by decide) ?_
    refine lv_icmp_ne (tgt := 61) hx hb dX8_closes_49 (by decide) (fun _ => ?_) (fun q9 => absurd q9 (nI_ne1 (by omega)))
    refine lv_iload_n hx hb dX8_closes_61 rfl (lv_at hl 0 rfl) ?_
    refine lv_iconst (v := nI 1) hx hb dX8_closes_62 (by decide) ?_
    refine x_addN hx hb dX8_closes_63 ?_
    refine x_ast C h (hM 38 (by decide)) (n := 1120) rfl (bs + b0) (by omega) (by decide) rfl dX8_closes_64 (fun H locs u7 eu7 h => ?_)
    rw [eu6, ga_rm38, rm_38] at eu7
    refine lv_iload_n hx hb dX8_closes_65 rfl (lv_at hl 0 rfl) ?_
    refine lv_iconst (v := (-1)) hx hb dX8_closes_66 (by decide) ?_
    refine lv_icmp_eq (tgt := 84) hx hb dX8_closes_67 (by decide) (fun q9 => absurd q9 (nI_ne1 (by omega))) (fun _ => ?_)
    refine lv_aload_n hx hb dX8_closes_70 rfl (lv_at hl 1 rfl) ?_
    refine gf_X8_25 C h (hM 30 (by decide)) rfl (k2 := 38) rfl dX8_closes_71 ?_
    refine lv_iload_n hx hb dX8_closes_74 rfl (lv_at hl 2 rfl) ?_
    refine lv_iload_n hx hb dX8_closes_75 rfl (lv_at hl 0 rfl) ?_
    refine x_addN hx hb dX8_closes_76 ?_
    refine lv_aload_n hx hb dX8_closes_77 rfl (lv_at hl 1 rfl) ?_
    refine gf_X8_134 C h (hM 30 (by decide)) rfl dX8_closes_78 ?_
    refine x_topi (y := nI a) (by rw [eu7]; exact gi_rm9) ?_
    refine lv_iconst (v := nI 1) hx hb dX8_closes_81 (by decide) ?_
    refine x_addN hx hb dX8_closes_82 ?_
    refine x_ast C h (hM 38 (by decide)) (n := 1120) rfl (bs + j) (by omega) (by decide) rfl dX8_closes_83 (fun H locs u8 eu8 h => ?_)
    rw [eu7, ga_rm38, rm_38] at eu8
    refine lv_aload_n hx hb dX8_closes_84 rfl (lv_at hl 1 rfl) ?_
    refine lv_dup hx hb dX8_closes_85 rfl ?_
    refine gf_X8_134 C h (hM 30 (by decide)) rfl dX8_closes_86 ?_
    refine x_topi (y := nI a) (by rw [eu8]; exact gi_rm9) ?_
    refine lv_iconst (v := nI 1) hx hb dX8_closes_89 (by decide) ?_
    refine x_addN hx hb dX8_closes_90 ?_
    refine pf_X8_134 C h (hM 30 (by decide)) rfl dX8_closes_91 (fun H locs u9 eu9 h => ?_)
    rw [eu8, rm_9] at eu9
    exact x_vret C hr hlocks h eu9 dX8_closes_94
