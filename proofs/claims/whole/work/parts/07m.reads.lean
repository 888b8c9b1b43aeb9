/-! ===== the reference: reads, template ===== -/
/-- at, fault; what is open, the innermost first: is it a loop, where it begins, its middle; parts; marks, bodies, others -/
abbrev PM : Type := Nat × Option Nat × List (Bool × Nat × Option Nat) × Int32 × (Nat → Int32) × (Nat → Int32) × (Nat → Int32)
def lpS : List (Bool × Nat × Option Nat) → Nat → Bool
  | [], _ => false
  | x :: S, k => if k = S.length then x.1 else lpS S k
def ilS (S : List (Bool × Nat × Option Nat)) : Bool := ilF (lpS S) S.length
theorem upd_at (f : Nat → Int32) (k : Nat) (v : Int32) : upd f k v k = v := if_pos rfl
theorem upd_ne (f : Nat → Int32) {k j : Nat} (v : Int32) (h : j ≠ k) : upd f k v j = f j := if_neg h
def stOK : List (Bool × Nat × Option Nat) → (Nat → Int32) → (Nat → Int32) → (Nat → Int32) → Prop
  | [], _, _, _ => True
  | x :: S, al, bg, mi => al S.length = bi x.1 ∧ bg S.length = nI x.2.1 ∧ mi S.length = oI x.2.2 ∧ x.2.1 < 160 ∧ (∀ j, x.2.2 = some j → j < 160) ∧ stOK S al bg mi
theorem stOK_lp {al bg mi : Nat → Int32} : ∀ {S : List (Bool × Nat × Option Nat)}, stOK S al bg mi → ∀ k, k < S.length → al k = bi (lpS S k) := by
  intro S
  induction S with
  | nil => intro _ k h; exact absurd h (Nat.not_lt_zero _)
  | cons x S ih =>
    intro h k hk
    by_cases e : k = S.length
    · rw [lpS, if_pos e, e]; exact h.1
    · rw [lpS, if_neg e]; exact ih h.2.2.2.2.2 k (by have : k < S.length + 1 := hk; omega)
theorem stOK_up {al bg mi al' bg' mi' : Nat → Int32} : ∀ {S : List (Bool × Nat × Option Nat)}, stOK S al bg mi → (∀ k, k < S.length → al' k = al k ∧ bg' k = bg k ∧ mi' k = mi k) → stOK S al' bg' mi' := by
  intro S
  induction S with
  | nil => intro _ _; exact True.intro
  | cons x S ih =>
    intro h g
    obtain ⟨g1, g2, g3⟩ := g S.length (Nat.lt_succ_self _)
    exact ⟨g1.trans h.1, g2.trans h.2.1, g3.trans h.2.2.1, h.2.2.2.1, h.2.2.2.2.1, ih h.2.2.2.2.2 (fun k hk => g k (Nat.lt_succ_of_lt hk))⟩
theorem stOK_push {al bg mi : Nat → Int32} {S : List (Bool × Nat × Option Nat)} (h : stOK S al bg mi) (b : Bool) {a : Nat} (ha : a < 160) : stOK ((b, a, none) :: S) (upd al S.length (bi b)) (upd bg S.length (nI a)) (upd mi S.length (-1)) :=
  ⟨upd_at .., upd_at .., upd_at .., ha, (fun _ q => by cases q), stOK_up h (fun k hk => ⟨upd_ne _ _ (by omega), upd_ne _ _ (by omega), upd_ne _ _ (by omega)⟩)⟩
theorem stOK_mid {al bg mi : Nat → Int32} {S : List (Bool × Nat × Option Nat)} {b : Bool} {b0 : Nat} {mo : Option Nat} (h : stOK ((b, b0, mo) :: S) al bg mi) {a : Nat} (ha : a < 160) : stOK ((b, b0, some a) :: S) al bg (upd mi S.length (nI a)) :=
  ⟨h.1, h.2.1, upd_at .., h.2.2.2.1, (fun _ q => by cases q; exact ha), stOK_up h.2.2.2.2.2 (fun k hk => ⟨rfl, rfl, upd_ne _ _ (by omega)⟩)⟩
section PS
variable (pg : Nat → Int32) (np bs : Nat)
def pqStep (x : PM) : PM :=
  match x with
  | (a, _, S, q, km, bo, ot) =>
    if pg a = nI 123 then
      (if msgF pg np (a + 1) = nI 42 ∧ S.length < 5 ∧ ilS S = false then (a + 1 + 1, none, (true, a, none) :: S, q + nI 1, upd km (bs + a) (nI 0), upd bo (bs + a) (nI (a + 1 + 1)), ot)
      else if msgF pg np (a + 1) = nI 63 ∧ S.length < 5 then
        (if (pqC pg np (ilS S) (a + 1)).2 then ((pqC pg np (ilS S) (a + 1)).1, none, (false, a, none) :: S, q + nI 1, upd km (bs + a) (nI 0), upd bo (bs + a) (nI (pqC pg np (ilS S) (a + 1)).1), ot)
        else ((pqC pg np (ilS S) (a + 1)).1, some (pqC pg np (ilS S) (a + 1)).1, S, q, upd km (bs + a) (nI 0), upd bo (bs + a) (nI (pqC pg np (ilS S) (a + 1)).1), ot))
      else if nmB (msgF pg np (a + 1)) (ilS S) then ((pqF pg np (a + 1)).1 + 1, if (pqF pg np (a + 1)).2 then none else some (pqF pg np (a + 1)).1, S, q + nI 1, upd km (bs + a) (nI 0), bo, ot)
      else (a + 1, some (a + 1), S, q, upd km (bs + a) (nI 0), bo, ot))
    else match S with
      | [] => if pg a = nI 125 ∨ pg a = nI 124 then (a, some a, [], q, upd km (bs + a) (nI 0), bo, ot) else (a + 1, none, [], q, upd km (bs + a) (nI 0), bo, ot)
      | (true, b0, mo) :: S =>
        if pg a = nI 125 ∨ pg a = nI 124 then (a, some a, (true, b0, mo) :: S, q, upd km (bs + a) (nI 0), bo, ot)
        else if pg a = nI 42 ∧ msgF pg np (a + 1) = nI 125 then (a + 2, none, S, q, upd (upd km (bs + a) (nI 0)) (bs + a) (nI 1), bo, ot)
        else (a + 1, none, (true, b0, mo) :: S, q, upd km (bs + a) (nI 0), bo, ot)
      | (false, b0, none) :: S =>
        if pg a = nI 125 then (a + 1, none, S, q, upd (upd km (bs + a) (nI 0)) (bs + a) (nI 3), bo, pqO bs b0 a none ot)
        else if pg a = nI 124 then (a + 1, none, (false, b0, some a) :: S, q, upd (upd km (bs + a) (nI 0)) (bs + a) (nI 2), bo, ot)
        else (a + 1, none, (false, b0, none) :: S, q, upd km (bs + a) (nI 0), bo, ot)
      | (false, b0, some j) :: S =>
        if pg a = nI 125 then (a + 1, none, S, q, upd (upd km (bs + a) (nI 0)) (bs + a) (nI 3), bo, pqO bs b0 a (some j) ot)
        else if pg a = nI 124 then (a, some a, (false, b0, some j) :: S, q, upd km (bs + a) (nI 0), bo, ot)
        else (a + 1, none, (false, b0, some j) :: S, q, upd km (bs + a) (nI 0), bo, ot)
theorem pqStep_br {S : List (Bool × Nat × Option Nat)} {a : Nat} {f : Option Nat} {q : Int32} {mk bo ot : Nat → Int32} (h : pg a = nI 123) : pqStep pg np bs (a, f, S, q, mk, bo, ot) =
      (if msgF pg np (a + 1) = nI 42 ∧ S.length < 5 ∧ ilS S = false then (a + 1 + 1, none, (true, a, none) :: S, q + nI 1, upd mk (bs + a) (nI 0), upd bo (bs + a) (nI (a + 1 + 1)), ot)
      else if msgF pg np (a + 1) = nI 63 ∧ S.length < 5 then
        (if (pqC pg np (ilS S) (a + 1)).2 then ((pqC pg np (ilS S) (a + 1)).1, none, (false, a, none) :: S, q + nI 1, upd mk (bs + a) (nI 0), upd bo (bs + a) (nI (pqC pg np (ilS S) (a + 1)).1), ot)
        else ((pqC pg np (ilS S) (a + 1)).1, some (pqC pg np (ilS S) (a + 1)).1, S, q, upd mk (bs + a) (nI 0), upd bo (bs + a) (nI (pqC pg np (ilS S) (a + 1)).1), ot))
      else if nmB (msgF pg np (a + 1)) (ilS S) then ((pqF pg np (a + 1)).1 + 1, if (pqF pg np (a + 1)).2 then none else some (pqF pg np (a + 1)).1, S, q + nI 1, upd mk (bs + a) (nI 0), bo, ot)
      else (a + 1, some (a + 1), S, q, upd mk (bs + a) (nI 0), bo, ot)) := if_pos h
theorem pqStep_nil {a : Nat} {f : Option Nat} {q : Int32} {mk bo ot : Nat → Int32} (h : ¬ pg a = nI 123) : pqStep pg np bs (a, f, [], q, mk, bo, ot) =
      (if pg a = nI 125 ∨ pg a = nI 124 then (a, some a, [], q, upd mk (bs + a) (nI 0), bo, ot) else (a + 1, none, [], q, upd mk (bs + a) (nI 0), bo, ot)) := if_neg h
theorem pqStep_t {S : List (Bool × Nat × Option Nat)} {b0 : Nat} {mo : Option Nat} {a : Nat} {f : Option Nat} {q : Int32} {mk bo ot : Nat → Int32} (h : ¬ pg a = nI 123) : pqStep pg np bs (a, f, (true, b0, mo) :: S, q, mk, bo, ot) =
      (if pg a = nI 125 ∨ pg a = nI 124 then (a, some a, (true, b0, mo) :: S, q, upd mk (bs + a) (nI 0), bo, ot)
        else if pg a = nI 42 ∧ msgF pg np (a + 1) = nI 125 then (a + 2, none, S, q, upd (upd mk (bs + a) (nI 0)) (bs + a) (nI 1), bo, ot)
        else (a + 1, none, (true, b0, mo) :: S, q, upd mk (bs + a) (nI 0), bo, ot)) := if_neg h
theorem pqStep_n {S : List (Bool × Nat × Option Nat)} {b0 : Nat} {a : Nat} {f : Option Nat} {q : Int32} {mk bo ot : Nat → Int32} (h : ¬ pg a = nI 123) : pqStep pg np bs (a, f, (false, b0, none) :: S, q, mk, bo, ot) =
      (if pg a = nI 125 then (a + 1, none, S, q, upd (upd mk (bs + a) (nI 0)) (bs + a) (nI 3), bo, pqO bs b0 a none ot)
        else if pg a = nI 124 then (a + 1, none, (false, b0, some a) :: S, q, upd (upd mk (bs + a) (nI 0)) (bs + a) (nI 2), bo, ot)
        else (a + 1, none, (false, b0, none) :: S, q, upd mk (bs + a) (nI 0), bo, ot)) := if_neg h
theorem pqStep_s {S : List (Bool × Nat × Option Nat)} {b0 j : Nat} {a : Nat} {f : Option Nat} {q : Int32} {mk bo ot : Nat → Int32} (h : ¬ pg a = nI 123) : pqStep pg np bs (a, f, (false, b0, some j) :: S, q, mk, bo, ot) =
      (if pg a = nI 125 then (a + 1, none, S, q, upd (upd mk (bs + a) (nI 0)) (bs + a) (nI 3), bo, pqO bs b0 a (some j) ot)
        else if pg a = nI 124 then (a, some a, (false, b0, some j) :: S, q, upd mk (bs + a) (nI 0), bo, ot)
        else (a + 1, none, (false, b0, some j) :: S, q, upd mk (bs + a) (nI 0), bo, ot)) := if_neg h
def pqRun : Nat → PM → PM
  | 0, x => x
  | n + 1, x => if x.1 < np ∧ x.2.1 = none then pqRun n (pqStep pg np bs x) else x
def pqFin (x : PM) : PM := if x.2.1 = none ∧ ¬ x.2.2.1.length = 0 then (x.1, some x.1, x.2.2) else x
def pqRd (mk bo ot : Nat → Int32) : PM := pqFin (pqRun pg np bs 400 (0, none, [], nI 0, mk, bo, ot))
theorem pqRun_stop {x : PM} (h : ¬ (x.1 < np ∧ x.2.1 = none)) (n : Nat) : pqRun pg np bs n x = x := by
  cases n with
  | zero => rfl
  | succ n => rw [pqRun, if_neg h]
theorem pqRun_go {x : PM} (h : x.1 < np ∧ x.2.1 = none) (n : Nat) : pqRun pg np bs (n + 1) x = pqRun pg np bs n (pqStep pg np bs x) := by
  rw [pqRun, if_pos h]
end PS
theorem pqF_le {pg : Nat → Int32} {np : Nat} (a : Nat) : a < (pqF pg np a).1 ∧ (a < np → (pqF pg np a).1 ≤ np) := by
  rw [pqF]
  split
  · next h => have := msg_dg h (by decide); exact ⟨by show a < a + 1 + 1; omega, fun _ => this⟩
  · exact ⟨Nat.lt_succ_self _, fun h => h⟩
def rmT (x : PM) (al bg mi : Nat → Int32) : MR := (nI x.1, oI x.2.1, nI x.2.2.1.length, x.2.2.2.1, al, bg, mi, x.2.2.2.2.1, x.2.2.2.2.2.1, x.2.2.2.2.2.2)

set_option maxHeartbeats 4000000 in
set_option maxRecDepth 100000 in
theorem c_X8_reads (l : Launch) (D : va_G) (cy : Nat → ClassId) (ad : Nat → Nat) (Ls : List Nat) (st : XS) (hM : ∀ k, k ∈ LsM → k ∈ Ls) (np : Nat) (hnp160 : np ≤ 160) (hnp : gi st 1 30 = nI np) (bs : Nat) (hbs : bs + 160 ≤ 1120) (A9 F9 D9 q : Int32) (al bg mi mk bo ot : Nat → Int32) : xMv l yX8_reads cX8_reads 5 6 D cy ad Ls (rqS st (A9, F9, D9, q, al, bg, mi, mk, bo, ot)) [.ref (ad 30), .int (nI bs)] (fun u => ∃ al1 bg1 mi1, u = rqS st (rmT (pqRd (ga st 32) np bs mk bo ot) al1 bg1 mi1)) := by
  intro sz
  refine x_of sz (by decide +kernel) (Nat.le_of_ble_eq_true rfl) ?_
  intro p e s m args below meth c ls hx hb hr hlocks C hsz h hl
  have hl : lv_has ls 5 [(0, .ref (ad 30)), (1, .int (nI bs))] := hl
  obtain ⟨H, eH⟩ : ∃ z, z = s.heap := ⟨_, rfl⟩
  obtain ⟨locs, eL⟩ : ∃ z : List Loc, z = [] := ⟨_, rfl⟩
  rw [← eH, ← eL] at h
  rw [← eH, ← eL]
  clear eH eL
  obtain ⟨v, hv⟩ : ∃ v, v = rqS st (A9, F9, D9, q, al, bg, mi, mk, bo, ot) := ⟨_, rfl⟩
  rw [← hv] at h
  refine lv_aload_n hx hb dX8_reads_0 rfl (lv_at hl 0 rfl) ?_
  refine lv_iconst (v := nI 0) hx hb dX8_reads_1 (by decide) ?_
  refine pf_X8_134 C h (hM 30 (by decide)) rfl dX8_reads_2 (fun H locs u1 eu1 h => ?_)
  rw [hv, rm_9] at eu1
  refine lv_aload_n hx hb dX8_reads_5 rfl (lv_at hl 0 rfl) ?_
  refine lv_iconst (v := (-1)) hx hb dX8_reads_6 (by decide) ?_
  refine pf_X8_148 C h (hM 30 (by decide)) rfl dX8_reads_7 (fun H locs u2 eu2 h => ?_)
  rw [eu1, rm_10] at eu2
  refine lv_aload_n hx hb dX8_reads_10 rfl (lv_at hl 0 rfl) ?_
  refine lv_iconst (v := nI 0) hx hb dX8_reads_11 (by decide) ?_
  refine pf_X8_127 C h (hM 30 (by decide)) rfl dX8_reads_12 (fun H locs u3 eu3 h => ?_)
  rw [eu2, rm_11] at eu3
  refine lv_aload_n hx hb dX8_reads_15 rfl (lv_at hl 0 rfl) ?_
  refine lv_iconst (v := nI 0) hx hb dX8_reads_16 (by decide) ?_
  refine pf_X8_154 C h (hM 30 (by decide)) rfl dX8_reads_17 (fun H locs u4 eu4 h => ?_)
  rw [eu3, rm_12] at eu4
  have L20 : ∀ (N20 : Nat) (v9 : XS) (a9 : Nat) (f9 : Option Nat) (S : List (Bool × Nat × Option Nat)) (q9 : Int32) (al9 bg9 mi9 mk9 bo9 ot9 : Nat → Int32) (n9 : Nat) (ha9 : a9 ≤ np + 1) (hf9 : ∀ j, f9 = some j → j ≤ np + 1) (hS : stOK S al9 bg9 mi9) (hS5 : S.length ≤ 5) (hn9 : 2 * (np + 2 - a9) + (if f9 = none then 1 else 0) ≤ n9) (hv9 : v9 = rqS st (nI a9, oI f9, nI S.length, q9, al9, bg9, mi9, mk9, bo9, ot9)) (hR : pqRun (ga st 32) np bs n9 (a9, f9, S, q9, mk9, bo9, ot9) = pqRun (ga st 32) np bs 400 (0, none, [], nI 0, mk, bo, ot)) (hN : 2 * (np + 2 - a9) + (if f9 = none then 1 else 0) < N20) (H : Heap) (locs : List Loc) (ls : Array Slot), xH D cy ad Ls (XA ad Ls sz) s v9 H locs → lv_has ls 5 [(0, .ref (ad 30)), (1, .int (nI bs))] → W p l e (xR 6) s m args below meth c H locs 0 0 (MQ below (va_Qv (fun u => ∃ al1 bg1 mi1, u = rqS st (rmT (pqRd (ga st 32) np bs mk bo ot) al1 bg1 mi1)) (fun u => xPost D cy ad Ls (XA ad Ls sz) u) (XA ad Ls sz)) args s 0 0 (XA ad Ls sz)) (F0 m 20 ls []) := by
    intro N20
    induction N20 with
    | zero => intro v9 a9 f9 S q9 al9 bg9 mi9 mk9 bo9 ot9 n9 ha9 hf9 hS hS5 hn9 hv9 hR hN; omega
    | succ N20 ih20 =>
      intro v9 a9 f9 S q9 al9 bg9 mi9 mk9 bo9 ot9 n9 ha9 hf9 hS hS5 hn9 hv9 hR hN H locs ls h hl
      refine lv_aload_n hx hb dX8_reads_20 rfl (lv_at hl 0 rfl) ?_
      refine gf_X8_134 C h (hM 30 (by decide)) rfl dX8_reads_21 ?_
      refine x_topi (y := nI a9) (by rw [hv9]; exact gi_rm9) ?_
      refine lv_aload_n hx hb dX8_reads_24 rfl (lv_at hl 0 rfl) ?_
      refine gf_X8_124 C h (hM 30 (by decide)) rfl dX8_reads_25 ?_
      refine x_topi (y := nI np) (by rw [hv9, gi_rmo (by decide)]; exact hnp) ?_
      refine x_icmpN_ge (tgt := 310) hx hb dX8_reads_28 (by decide) (by omega) (by omega) (fun c28 => ?_) (fun c28 => ?_)
      · rcases f9 with _ | j9
        · replace hv9 : v9 = rqS st (nI a9, -1, nI S.length, q9, al9, bg9, mi9, mk9, bo9, ot9) := hv9
          refine lv_aload_n hx hb dX8_reads_310 rfl (lv_at hl 0 rfl) ?_
          refine lv_aload_n hx hb dX8_reads_311 rfl (lv_at hl 0 rfl) ?_
          refine gf_X8_127 C h (hM 30 (by decide)) rfl dX8_reads_312 ?_
          refine x_topi (y := nI S.length) (by rw [hv9]; exact gi_rm11) ?_
          refine x_ifN_ne (tgt := 322) hx hb dX8_reads_315 (by decide) (by omega) (fun c315 => ?_) (fun c315 => ?_)
          · refine lv_iconst (v := nI 0) hx hb dX8_reads_322 (by decide) ?_
            refine x_topi (y := bi false) rfl ?_
            refine cl_X8_160 C h (hM 30 (by decide)) rfl (c_X8_expects l D cy ad Ls v9 hM (-1) (nI a9) (by rw [hv9]; exact gi_rm10) (by rw [hv9]; exact gi_rm9) false) (x_room (by omega)) ⟨Nat.zero_le _, Nat.zero_le _⟩ hl.1 (Nat.le_of_ble_eq_true rfl) dX8_reads_323 (fun u5 H locs hp h => ?_)
            have Eu5 := hp; clear hp
            rw [if_pos ⟨rfl, rfl⟩, hv9, rm_10] at Eu5
            exact x_vret C hr hlocks h ⟨al9, bg9, mi9, by rw [show pqRd (ga st 32) np bs mk bo ot = (a9, some a9, S, q9, mk9, bo9, ot9) by (rw [pqRd, ← hR, pqRun_stop _ _ _ (fun q9 => absurd q9.1 (Nat.not_lt.mpr c28)), pqFin]; rw [if_pos ⟨rfl, c315⟩])]; exact Eu5⟩ dX8_reads_326
          · refine lv_iconst (v := nI 1) hx hb dX8_reads_318 (by decide) ?_
            refine x_topi (y := bi true) rfl ?_
            refine lv_goto (tgt := 323) hx hb dX8_reads_319 (by decide) ?_
            refine cl_X8_160 C h (hM 30 (by decide)) rfl (c_X8_expects l D cy ad Ls v9 hM (-1) (nI a9) (by rw [hv9]; exact gi_rm10) (by rw [hv9]; exact gi_rm9) true) (x_room (by omega)) ⟨Nat.zero_le _, Nat.zero_le _⟩ hl.1 (Nat.le_of_ble_eq_true rfl) dX8_reads_323 (fun u7 H locs hp h => ?_)
            have Eu7 := hp; clear hp
            rw [if_neg (fun q => absurd q.2 (by decide)), hv9] at Eu7
            exact x_vret C hr hlocks h ⟨al9, bg9, mi9, by rw [show pqRd (ga st 32) np bs mk bo ot = (a9, none, S, q9, mk9, bo9, ot9) by (rw [pqRd, ← hR, pqRun_stop _ _ _ (fun q9 => absurd q9.1 (Nat.not_lt.mpr c28)), pqFin]; rw [if_neg (fun q9 => q9.2 c315)])]; exact Eu7⟩ dX8_reads_326
        · have hj9 := hf9 j9 rfl
          replace hv9 : v9 = rqS st (nI a9, nI j9, nI S.length, q9, al9, bg9, mi9, mk9, bo9, ot9) := hv9
          refine lv_aload_n hx hb dX8_reads_310 rfl (lv_at hl 0 rfl) ?_
          refine lv_aload_n hx hb dX8_reads_311 rfl (lv_at hl 0 rfl) ?_
          refine gf_X8_127 C h (hM 30 (by decide)) rfl dX8_reads_312 ?_
          refine x_topi (y := nI S.length) (by rw [hv9]; exact gi_rm11) ?_
          refine x_ifN_ne (tgt := 322) hx hb dX8_reads_315 (by decide) (by omega) (fun c315 => ?_) (fun c315 => ?_)
          · refine lv_iconst (v := nI 0) hx hb dX8_reads_322 (by decide) ?_
            refine x_topi (y := bi false) rfl ?_
            refine cl_X8_160 C h (hM 30 (by decide)) rfl (c_X8_expects l D cy ad Ls v9 hM (nI j9) (nI a9) (by rw [hv9]; exact gi_rm10) (by rw [hv9]; exact gi_rm9) false) (x_room (by omega)) ⟨Nat.zero_le _, Nat.zero_le _⟩ hl.1 (Nat.le_of_ble_eq_true rfl) dX8_reads_323 (fun u9 H locs hp h => ?_)
            have Eu9 := hp; clear hp
            rw [if_neg (fun q => nI_ne1 (by omega) q.1), hv9] at Eu9
            exact x_vret C hr hlocks h ⟨al9, bg9, mi9, by rw [show pqRd (ga st 32) np bs mk bo ot = (a9, some j9, S, q9, mk9, bo9, ot9) by (rw [pqRd, ← hR, pqRun_stop _ _ _ (fun q9 => absurd q9.1 (Nat.not_lt.mpr c28)), pqFin]; rw [if_neg (fun q9 => by cases q9.1)])]; exact Eu9⟩ dX8_reads_326
          · refine lv_iconst (v := nI 1) hx hb dX8_reads_318 (by decide) ?_
            refine x_topi (y := bi true) rfl ?_
            refine lv_goto (tgt := 323) hx hb dX8_reads_319 (by decide) ?_
            refine cl_X8_160 C h (hM 30 (by decide)) rfl (c_X8_expects l D cy ad Ls v9 hM (nI j9) (nI a9) (by rw [hv9]; exact gi_rm10) (by rw [hv9]; exact gi_rm9) true) (x_room (by omega)) ⟨Nat.zero_le _, Nat.zero_le _⟩ hl.1 (Nat.le_of_ble_eq_true rfl) dX8_reads_323 (fun u11 H locs hp h => ?_)
            have Eu11 := hp; clear hp
            rw [if_neg (fun q => absurd q.2 (by decide)), hv9] at Eu11
            exact x_vret C hr hlocks h ⟨al9, bg9, mi9, by rw [show pqRd (ga st 32) np bs mk bo ot = (a9, some j9, S, q9, mk9, bo9, ot9) by (rw [pqRd, ← hR, pqRun_stop _ _ _ (fun q9 => absurd q9.1 (Nat.not_lt.mpr c28)), pqFin]; rw [if_neg (fun q9 => by cases q9.1)])]; exact Eu11⟩ dX8_reads_326
      · refine lv_aload_n hx hb dX8_reads_31 rfl (lv_at hl 0 rfl) ?_
        refine gf_X8_148 C h (hM 30 (by decide)) rfl dX8_reads_32 ?_
        refine x_topi (y := oI f9) (by rw [hv9]; exact gi_rm10) ?_
        refine lv_iconst (v := (-1)) hx hb dX8_reads_35 (by decide) ?_
        rcases f9 with _ | j9
        · refine lv_icmp_ne (tgt := 310) hx hb dX8_reads_36 (by decide) (fun q9 => absurd rfl q9) (fun _ => ?_)
          obtain ⟨n8, rfl⟩ : ∃ n8, n9 = n8 + 1 := ⟨n9 - 1, by have := hn9; rw [if_pos rfl] at this; omega⟩
          rw [pqRun_go _ _ _ (show a9 < np ∧ (none : Option Nat) = none from ⟨c28, rfl⟩)] at hR
          rcases S with _ | ⟨⟨b, b0, mo⟩, S8⟩
          · replace hv9 : v9 = rqS st (nI a9, oI none, nI 0, q9, al9, bg9, mi9, mk9, bo9, ot9) := hv9
            refine lv_aload_n hx hb dX8_reads_39 rfl (lv_at hl 0 rfl) ?_
            refine gf_X8_7 C h (hM 30 (by decide)) rfl (k2 := 32) rfl dX8_reads_40 ?_
            refine lv_aload_n hx hb dX8_reads_43 rfl (lv_at hl 0 rfl) ?_
            refine gf_X8_134 C h (hM 30 (by decide)) rfl dX8_reads_44 ?_
            refine x_topi (y := nI a9) (by rw [hv9]; exact gi_rm9) ?_
            refine x_ald C h (hM 32 (by decide)) (n := 160) rfl a9 (by omega) (by decide) rfl dX8_reads_47 ?_
            refine x_topi (y := ga st 32 a9) (by rw [hv9, ga_rmo (by decide)]) ?_
            refine lv_istore_n (lv' := [(2, .int (ga st 32 a9)), (0, .ref (ad 30)), (1, .int (nI bs))]) hx hb dX8_reads_48 rfl hl (by decide) rfl (fun ls hl => ?_)
            refine lv_aload_n hx hb dX8_reads_49 rfl (lv_at hl 1 rfl) ?_
            refine gf_X8_127 C h (hM 30 (by decide)) rfl dX8_reads_50 ?_
            refine x_topi (y := nI 0) (by rw [hv9]; exact gi_rm11) ?_
            refine x_ifN_le (tgt := 74) hx hb dX8_reads_53 (by decide) (by decide) (fun _ => ?_) (fun z9 => absurd z9 (by decide))
            refine lv_iconst (v := nI 0) hx hb dX8_reads_74 (by decide) ?_
            refine lv_istore_n (lv' := [(3, .int (nI 0)), (2, .int (ga st 32 a9)), (0, .ref (ad 30)), (1, .int (nI bs))]) hx hb dX8_reads_75 rfl hl (by decide) rfl (fun ls hl => ?_)
            refine lv_aload_n hx hb dX8_reads_76 rfl (lv_at hl 2 rfl) ?_
            refine gf_X8_127 C h (hM 30 (by decide)) rfl dX8_reads_77 ?_
            refine x_topi (y := nI 0) (by rw [hv9]; exact gi_rm11) ?_
            refine x_ifN_le (tgt := 101) hx hb dX8_reads_80 (by decide) (by decide) (fun _ => ?_) (fun z9 => absurd z9 (by decide))
            refine lv_iconst (v := nI 0) hx hb dX8_reads_101 (by decide) ?_
            refine lv_istore (lv' := [(4, .int (nI 0)), (3, .int (nI 0)), (2, .int (ga st 32 a9)), (0, .ref (ad 30)), (1, .int (nI bs))]) hx hb dX8_reads_102 hl (by decide) rfl (fun ls hl => ?_)
            refine lv_aload_n hx hb dX8_reads_104 rfl (lv_at hl 3 rfl) ?_
            refine gf_X8_19 C h (hM 30 (by decide)) rfl (k2 := 36) rfl dX8_reads_105 ?_
            refine lv_iload_n hx hb dX8_reads_108 rfl (lv_at hl 4 rfl) ?_
            refine lv_aload_n hx hb dX8_reads_109 rfl (lv_at hl 3 rfl) ?_
            refine gf_X8_134 C h (hM 30 (by decide)) rfl dX8_reads_110 ?_
            refine x_topi (y := nI a9) (by rw [hv9]; exact gi_rm9) ?_
            refine x_addN hx hb dX8_reads_113 ?_
            refine lv_iconst (v := nI 0) hx hb dX8_reads_114 (by decide) ?_
            refine x_ast C h (hM 36 (by decide)) (n := 1120) rfl (bs + a9) (by omega) (by decide) rfl dX8_reads_115 (fun H locs u13 eu13 h => ?_)
            rw [hv9, ga_rm36, rm_36] at eu13
            refine lv_iload_n hx hb dX8_reads_116 rfl (lv_at hl 2 rfl) ?_
            refine lv_bipush (v := nI 123) hx hb dX8_reads_117 (by decide) ?_
            refine lv_icmp_ne (tgt := 130) hx hb dX8_reads_119 (by decide) (fun c119 => ?_) (fun c119 => ?_)
            · refine lv_iload_n hx hb dX8_reads_130 rfl (lv_at hl 2 rfl) ?_
              refine lv_bipush (v := nI 125) hx hb dX8_reads_131 (by decide) ?_
              refine lv_icmp_ne (tgt := 148) hx hb dX8_reads_133 (by decide) (fun c133 => ?_) (fun c133 => ?_)
              · refine lv_iload_n hx hb dX8_reads_148 rfl (lv_at hl 2 rfl) ?_
                refine lv_bipush (v := nI 124) hx hb dX8_reads_149 (by decide) ?_
                refine lv_icmp_ne (tgt := 213) hx hb dX8_reads_151 (by decide) (fun c151 => ?_) (fun c151 => ?_)
                · refine lv_iload_n hx hb dX8_reads_213 rfl (lv_at hl 2 rfl) ?_
                  refine lv_bipush (v := nI 125) hx hb dX8_reads_214 (by decide) ?_
                  refine lv_icmp_eq (tgt := 225) hx hb dX8_reads_216 (by decide) (fun q9 => absurd q9 c133) (fun _ => ?_)
                  refine lv_iload_n hx hb dX8_reads_219 rfl (lv_at hl 2 rfl) ?_
                  refine lv_bipush (v := nI 124) hx hb dX8_reads_220 (by decide) ?_
                  refine lv_icmp_ne (tgt := 236) hx hb dX8_reads_222 (by decide) (fun _ => ?_) (fun q9 => absurd q9 c151)
                  refine lv_iload_n hx hb dX8_reads_236 rfl (lv_at hl 2 rfl) ?_
                  refine lv_bipush (v := nI 42) hx hb dX8_reads_237 (by decide) ?_
                  refine lv_icmp_ne (tgt := 297) hx hb dX8_reads_239 (by decide) (fun c239 => ?_) (fun c239 => ?_)
                  · refine lv_aload_n hx hb dX8_reads_297 rfl (lv_at hl 3 rfl) ?_
                    refine lv_dup hx hb dX8_reads_298 rfl ?_
                    refine gf_X8_134 C h (hM 30 (by decide)) rfl dX8_reads_299 ?_
                    refine x_topi (y := nI a9) (by rw [eu13]; exact gi_rm9) ?_
                    refine lv_iconst (v := nI 1) hx hb dX8_reads_302 (by decide) ?_
                    refine x_addN hx hb dX8_reads_303 ?_
                    refine pf_X8_134 C h (hM 30 (by decide)) rfl dX8_reads_304 (fun H locs u14 eu14 h => ?_)
                    rw [eu13, rm_9] at eu14
                    refine lv_goto (tgt := 20) hx hb dX8_reads_307 (by decide) ?_
                    replace hR := (show pqRun (ga st 32) np bs n8 ((a9 + 1), none, [], q9, upd mk9 (bs + a9) (nI 0), bo9, ot9) = pqRun (ga st 32) np bs n8 (pqStep (ga st 32) np bs (a9, none, [], q9, mk9, bo9, ot9)) by rw [show pqStep (ga st 32) np bs (a9, none, [], q9, mk9, bo9, ot9) = ((a9 + 1), none, [], q9, upd mk9 (bs + a9) (nI 0), bo9, ot9) by (rw [pqStep_nil _ _ _ c119, if_neg (fun q9 => q9.elim (fun q9 => absurd q9 c133) (fun q9 => absurd q9 c151))] <;> rfl)]).trans hR
                    exact ih20 u14 (a9 + 1) (none) ([]) (q9) al9 bg9 mi9 (upd mk9 (bs + a9) (nI 0)) bo9 ot9 n8 (by omega) (fun _ q9 => by cases q9) (hS) hS5 ((by rw [if_pos rfl]; have := hn9; rw [if_pos rfl] at this; omega)) eu14 hR (by rw [if_pos rfl]; rw [if_pos rfl] at hN; omega) H locs ls h (lv_sub hl [3, 4] rfl)
                  · refine lv_iload hx hb dX8_reads_242 (lv_at hl 0 rfl) ?_
                    refine x_ifN_eq (tgt := 297) hx hb dX8_reads_244 (by decide) (by decide) (fun _ => ?_) (fun z9 => absurd z9 (by decide))
                    refine lv_aload_n hx hb dX8_reads_297 rfl (lv_at hl 3 rfl) ?_
                    refine lv_dup hx hb dX8_reads_298 rfl ?_
                    refine gf_X8_134 C h (hM 30 (by decide)) rfl dX8_reads_299 ?_
                    refine x_topi (y := nI a9) (by rw [eu13]; exact gi_rm9) ?_
                    refine lv_iconst (v := nI 1) hx hb dX8_reads_302 (by decide) ?_
                    refine x_addN hx hb dX8_reads_303 ?_
                    refine pf_X8_134 C h (hM 30 (by decide)) rfl dX8_reads_304 (fun H locs u15 eu15 h => ?_)
                    rw [eu13, rm_9] at eu15
                    refine lv_goto (tgt := 20) hx hb dX8_reads_307 (by decide) ?_
                    replace hR := (show pqRun (ga st 32) np bs n8 ((a9 + 1), none, [], q9, upd mk9 (bs + a9) (nI 0), bo9, ot9) = pqRun (ga st 32) np bs n8 (pqStep (ga st 32) np bs (a9, none, [], q9, mk9, bo9, ot9)) by rw [show pqStep (ga st 32) np bs (a9, none, [], q9, mk9, bo9, ot9) = ((a9 + 1), none, [], q9, upd mk9 (bs + a9) (nI 0), bo9, ot9) by (rw [pqStep_nil _ _ _ (fun q9 => absurd (c239.symm.trans q9) (by decide)), if_neg (fun q9 => q9.elim (fun q9 => absurd q9 (fun q8 => absurd (c239.symm.trans q8) (by decide))) (fun q9 => absurd q9 (fun q8 => absurd (c239.symm.trans q8) (by decide))))] <;> rfl)]).trans hR
                    exact ih20 u15 (a9 + 1) (none) ([]) (q9) al9 bg9 mi9 (upd mk9 (bs + a9) (nI 0)) bo9 ot9 n8 (by omega) (fun _ q9 => by cases q9) (hS) hS5 ((by rw [if_pos rfl]; have := hn9; rw [if_pos rfl] at this; omega)) eu15 hR (by rw [if_pos rfl]; rw [if_pos rfl] at hN; omega) H locs ls h (lv_sub hl [3, 4] rfl)
                · refine lv_iload_n hx hb dX8_reads_154 rfl (lv_at hl 1 rfl) ?_
                  refine x_ifN_eq (tgt := 213) hx hb dX8_reads_155 (by decide) (by decide) (fun _ => ?_) (fun z9 => absurd z9 (by decide))
                  refine lv_iload_n hx hb dX8_reads_213 rfl (lv_at hl 2 rfl) ?_
                  refine lv_bipush (v := nI 125) hx hb dX8_reads_214 (by decide) ?_
                  refine lv_icmp_eq (tgt := 225) hx hb dX8_reads_216 (by decide) (fun q9 => absurd (c151.symm.trans q9) (by decide)) (fun _ => ?_)
                  refine lv_iload_n hx hb dX8_reads_219 rfl (lv_at hl 2 rfl) ?_
                  refine lv_bipush (v := nI 124) hx hb dX8_reads_220 (by decide) ?_
                  refine lv_icmp_ne (tgt := 236) hx hb dX8_reads_222 (by decide) (fun q9 => absurd c151 q9) (fun _ => ?_)
                  refine lv_aload_n hx hb dX8_reads_225 rfl (lv_at hl 3 rfl) ?_
                  refine lv_aload_n hx hb dX8_reads_226 rfl (lv_at hl 3 rfl) ?_
                  refine gf_X8_134 C h (hM 30 (by decide)) rfl dX8_reads_227 ?_
                  refine x_topi (y := nI a9) (by rw [eu13]; exact gi_rm9) ?_
                  refine pf_X8_148 C h (hM 30 (by decide)) rfl dX8_reads_230 (fun H locs u16 eu16 h => ?_)
                  rw [eu13, rm_10] at eu16
                  refine lv_goto (tgt := 307) hx hb dX8_reads_233 (by decide) ?_
                  refine lv_goto (tgt := 20) hx hb dX8_reads_307 (by decide) ?_
                  replace hR := (show pqRun (ga st 32) np bs n8 (a9, some a9, [], q9, upd mk9 (bs + a9) (nI 0), bo9, ot9) = pqRun (ga st 32) np bs n8 (pqStep (ga st 32) np bs (a9, none, [], q9, mk9, bo9, ot9)) by rw [show pqStep (ga st 32) np bs (a9, none, [], q9, mk9, bo9, ot9) = (a9, some a9, [], q9, upd mk9 (bs + a9) (nI 0), bo9, ot9) by (rw [pqStep_nil _ _ _ (fun q9 => absurd (c151.symm.trans q9) (by decide)), if_pos (Or.inr c151)] <;> rfl)]).trans hR
                  exact ih20 u16 a9 (some a9) ([]) (q9) al9 bg9 mi9 (upd mk9 (bs + a9) (nI 0)) bo9 ot9 n8 (by omega) (fun _ q9 => by cases q9; omega) (hS) hS5 ((by rw [if_neg (fun q9 => by cases q9)]; have := hn9; rw [if_pos rfl] at this; omega)) eu16 hR (by rw [if_neg (fun q9 => by cases q9)]; rw [if_pos rfl] at hN; omega) H locs ls h (lv_sub hl [3, 4] rfl)
              · refine lv_iload_n hx hb dX8_reads_136 rfl (lv_at hl 1 rfl) ?_
                refine x_ifN_eq (tgt := 148) hx hb dX8_reads_137 (by decide) (by decide) (fun _ => ?_) (fun z9 => absurd z9 (by decide))
                refine lv_iload_n hx hb dX8_reads_148 rfl (lv_at hl 2 rfl) ?_
                refine lv_bipush (v := nI 124) hx hb dX8_reads_149 (by decide) ?_
                refine lv_icmp_ne (tgt := 213) hx hb dX8_reads_151 (by decide) (fun _ => ?_) (fun q9 => absurd (c133.symm.trans q9) (by decide))
                refine lv_iload_n hx hb dX8_reads_213 rfl (lv_at hl 2 rfl) ?_
                refine lv_bipush (v := nI 125) hx hb dX8_reads_214 (by decide) ?_
                refine lv_icmp_eq (tgt := 225) hx hb dX8_reads_216 (by decide) (fun _ => ?_) (fun q9 => absurd c133 q9)
                refine lv_aload_n hx hb dX8_reads_225 rfl (lv_at hl 3 rfl) ?_
                refine lv_aload_n hx hb dX8_reads_226 rfl (lv_at hl 3 rfl) ?_
                refine gf_X8_134 C h (hM 30 (by decide)) rfl dX8_reads_227 ?_
                refine x_topi (y := nI a9) (by rw [eu13]; exact gi_rm9) ?_
                refine pf_X8_148 C h (hM 30 (by decide)) rfl dX8_reads_230 (fun H locs u17 eu17 h => ?_)
                rw [eu13, rm_10] at eu17
                refine lv_goto (tgt := 307) hx hb dX8_reads_233 (by decide) ?_
                refine lv_goto (tgt := 20) hx hb dX8_reads_307 (by decide) ?_
                replace hR := (show pqRun (ga st 32) np bs n8 (a9, some a9, [], q9, upd mk9 (bs + a9) (nI 0), bo9, ot9) = pqRun (ga st 32) np bs n8 (pqStep (ga st 32) np bs (a9, none, [], q9, mk9, bo9, ot9)) by rw [show pqStep (ga st 32) np bs (a9, none, [], q9, mk9, bo9, ot9) = (a9, some a9, [], q9, upd mk9 (bs + a9) (nI 0), bo9, ot9) by (rw [pqStep_nil _ _ _ (fun q9 => absurd (c133.symm.trans q9) (by decide)), if_pos (Or.inl c133)] <;> rfl)]).trans hR
                exact ih20 u17 a9 (some a9) ([]) (q9) al9 bg9 mi9 (upd mk9 (bs + a9) (nI 0)) bo9 ot9 n8 (by omega) (fun _ q9 => by cases q9; omega) (hS) hS5 ((by rw [if_neg (fun q9 => by cases q9)]; have := hn9; rw [if_pos rfl] at this; omega)) eu17 hR (by rw [if_neg (fun q9 => by cases q9)]; rw [if_pos rfl] at hN; omega) H locs ls h (lv_sub hl [3, 4] rfl)
            · refine lv_aload_n hx hb dX8_reads_122 rfl (lv_at hl 3 rfl) ?_
              refine lv_iload_n hx hb dX8_reads_123 rfl (lv_at hl 4 rfl) ?_
              rw [eu13] at h
              refine cl_X8_175 C h (hM 30 (by decide)) rfl (c_X8_brace l D cy ad Ls st hM np hnp160 hnp a9 (by omega) bs (by omega) 0 q9 al9 bg9 mi9 (upd mk9 (bs + a9) (nI 0)) bo9 ot9 (by omega) (lpS []) (stOK_lp hS)) (x_room (by omega)) ⟨Nat.zero_le _, Nat.zero_le _⟩ hl.1 (Nat.le_of_ble_eq_true rfl) dX8_reads_124 (fun u18 H locs hp h => ?_)
              have Eu18 : u18 = rqS st (pqB (ga st 32) np (ilS ([])) ([] : List (Bool × Nat × Option Nat)).length bs a9 q9 al9 bg9 mi9 (upd mk9 (bs + a9) (nI 0)) bo9 ot9) := hp; clear hp
              by_cases k1 : msgF (ga st 32) np (a9 + 1) = nI 42 ∧ ([] : List (Bool × Nat × Option Nat)).length < 5 ∧ (ilS ([])) = false
              · rw [pqB, if_pos k1] at Eu18
                replace Eu18 : u18 = rqS st (nI (a9 + 1 + 1), oI none, nI (([] : List (Bool × Nat × Option Nat)).length + 1), q9 + nI 1, upd al9 ([] : List (Bool × Nat × Option Nat)).length (bi true), upd bg9 ([] : List (Bool × Nat × Option Nat)).length (nI a9), upd mi9 ([] : List (Bool × Nat × Option Nat)).length (-1), upd mk9 (bs + a9) (nI 0), upd bo9 (bs + a9) (nI (a9 + 1 + 1)), ot9) := Eu18
                refine lv_goto (tgt := 307) hx hb dX8_reads_127 (by decide) ?_
                refine lv_goto (tgt := 20) hx hb dX8_reads_307 (by decide) ?_
                replace hR := (show pqRun (ga st 32) np bs n8 ((a9 + 1 + 1), none, (true, a9, none) :: ([]), q9 + nI 1, upd mk9 (bs + a9) (nI 0), upd bo9 (bs + a9) (nI (a9 + 1 + 1)), ot9) = pqRun (ga st 32) np bs n8 (pqStep (ga st 32) np bs (a9, none, [], q9, mk9, bo9, ot9)) by rw [show pqStep (ga st 32) np bs (a9, none, [], q9, mk9, bo9, ot9) = ((a9 + 1 + 1), none, (true, a9, none) :: ([]), q9 + nI 1, upd mk9 (bs + a9) (nI 0), upd bo9 (bs + a9) (nI (a9 + 1 + 1)), ot9) by (rw [pqStep_br _ _ _ c119, if_pos k1] <;> rfl)]).trans hR
                exact ih20 u18 (a9 + 1 + 1) (none) ((true, a9, none) :: ([])) (q9 + nI 1) (upd al9 ([] : List (Bool × Nat × Option Nat)).length (bi true)) (upd bg9 ([] : List (Bool × Nat × Option Nat)).length (nI a9)) (upd mi9 ([] : List (Bool × Nat × Option Nat)).length (-1)) (upd mk9 (bs + a9) (nI 0)) (upd bo9 (bs + a9) (nI (a9 + 1 + 1))) ot9 n8 (by omega) (fun _ q9 => by cases q9) ((stOK_push hS true (by omega))) (by show _ + 1 ≤ 5; have := k1.2.1; omega) ((by rw [if_pos rfl]; have := hn9; rw [if_pos rfl] at this; omega)) Eu18 hR (by rw [if_pos rfl]; rw [if_pos rfl] at hN; omega) H locs ls h (lv_sub hl [3, 4] rfl)
              · by_cases k2 : msgF (ga st 32) np (a9 + 1) = nI 63 ∧ ([] : List (Bool × Nat × Option Nat)).length < 5
                · by_cases k3 : (pqC (ga st 32) np (ilS ([])) (a9 + 1)).2 = true
                  · rw [pqB, if_neg k1, if_pos k2, if_pos k3] at Eu18
                    replace Eu18 : u18 = rqS st (nI (pqC (ga st 32) np (ilS ([])) (a9 + 1)).1, oI none, nI (([] : List (Bool × Nat × Option Nat)).length + 1), q9 + nI 1, upd al9 ([] : List (Bool × Nat × Option Nat)).length (bi false), upd bg9 ([] : List (Bool × Nat × Option Nat)).length (nI a9), upd mi9 ([] : List (Bool × Nat × Option Nat)).length (-1), upd mk9 (bs + a9) (nI 0), upd bo9 (bs + a9) (nI (pqC (ga st 32) np (ilS ([])) (a9 + 1)).1), ot9) := Eu18
                    refine lv_goto (tgt := 307) hx hb dX8_reads_127 (by decide) ?_
                    refine lv_goto (tgt := 20) hx hb dX8_reads_307 (by decide) ?_
                    obtain ⟨m1, m2⟩ := pqC_le (pg := (ga st 32)) (np := np) (il := (ilS ([]))) (a9 + 1)
                    replace m2 := m2 (msg_lt k2.1 (by decide))
                    replace hR := (show pqRun (ga st 32) np bs n8 ((pqC (ga st 32) np (ilS ([])) (a9 + 1)).1, none, (false, a9, none) :: ([]), q9 + nI 1, upd mk9 (bs + a9) (nI 0), upd bo9 (bs + a9) (nI (pqC (ga st 32) np (ilS ([])) (a9 + 1)).1), ot9) = pqRun (ga st 32) np bs n8 (pqStep (ga st 32) np bs (a9, none, [], q9, mk9, bo9, ot9)) by rw [show pqStep (ga st 32) np bs (a9, none, [], q9, mk9, bo9, ot9) = ((pqC (ga st 32) np (ilS ([])) (a9 + 1)).1, none, (false, a9, none) :: ([]), q9 + nI 1, upd mk9 (bs + a9) (nI 0), upd bo9 (bs + a9) (nI (pqC (ga st 32) np (ilS ([])) (a9 + 1)).1), ot9) by (rw [pqStep_br _ _ _ c119, if_neg k1, if_pos k2, if_pos k3] <;> rfl)]).trans hR
                    exact ih20 u18 (pqC (ga st 32) np (ilS ([])) (a9 + 1)).1 (none) ((false, a9, none) :: ([])) (q9 + nI 1) (upd al9 ([] : List (Bool × Nat × Option Nat)).length (bi false)) (upd bg9 ([] : List (Bool × Nat × Option Nat)).length (nI a9)) (upd mi9 ([] : List (Bool × Nat × Option Nat)).length (-1)) (upd mk9 (bs + a9) (nI 0)) (upd bo9 (bs + a9) (nI (pqC (ga st 32) np (ilS ([])) (a9 + 1)).1)) ot9 n8 (by omega) (fun _ q9 => by cases q9) ((stOK_push hS false (by omega))) (by show _ + 1 ≤ 5; have := k2.2; omega) ((by rw [if_pos rfl]; have := hn9; rw [if_pos rfl] at this; omega)) Eu18 hR (by rw [if_pos rfl]; rw [if_pos rfl] at hN; omega) H locs ls h (lv_sub hl [3, 4] rfl)
                  · rw [pqB, if_neg k1, if_pos k2, if_neg k3] at Eu18
                    replace Eu18 : u18 = rqS st (nI (pqC (ga st 32) np (ilS ([])) (a9 + 1)).1, oI (some (pqC (ga st 32) np (ilS ([])) (a9 + 1)).1), nI 0, q9, al9, bg9, mi9, upd mk9 (bs + a9) (nI 0), upd bo9 (bs + a9) (nI (pqC (ga st 32) np (ilS ([])) (a9 + 1)).1), ot9) := Eu18
                    refine lv_goto (tgt := 307) hx hb dX8_reads_127 (by decide) ?_
                    refine lv_goto (tgt := 20) hx hb dX8_reads_307 (by decide) ?_
                    obtain ⟨m1, m2⟩ := pqC_le (pg := (ga st 32)) (np := np) (il := (ilS ([]))) (a9 + 1)
                    replace m2 := m2 (msg_lt k2.1 (by decide))
                    replace hR := (show pqRun (ga st 32) np bs n8 ((pqC (ga st 32) np (ilS ([])) (a9 + 1)).1, some (pqC (ga st 32) np (ilS ([])) (a9 + 1)).1, [], q9, upd mk9 (bs + a9) (nI 0), upd bo9 (bs + a9) (nI (pqC (ga st 32) np (ilS ([])) (a9 + 1)).1), ot9) = pqRun (ga st 32) np bs n8 (pqStep (ga st 32) np bs (a9, none, [], q9, mk9, bo9, ot9)) by rw [show pqStep (ga st 32) np bs (a9, none, [], q9, mk9, bo9, ot9) = ((pqC (ga st 32) np (ilS ([])) (a9 + 1)).1, some (pqC (ga st 32) np (ilS ([])) (a9 + 1)).1, [], q9, upd mk9 (bs + a9) (nI 0), upd bo9 (bs + a9) (nI (pqC (ga st 32) np (ilS ([])) (a9 + 1)).1), ot9) by (rw [pqStep_br _ _ _ c119, if_neg k1, if_pos k2, if_neg k3] <;> rfl)]).trans hR
                    exact ih20 u18 (pqC (ga st 32) np (ilS ([])) (a9 + 1)).1 (some (pqC (ga st 32) np (ilS ([])) (a9 + 1)).1) ([]) (q9) al9 bg9 mi9 (upd mk9 (bs + a9) (nI 0)) (upd bo9 (bs + a9) (nI (pqC (ga st 32) np (ilS ([])) (a9 + 1)).1)) ot9 n8 (by omega) (fun _ q9 => by cases q9; omega) (hS) hS5 ((by rw [if_neg (fun q9 => by cases q9)]; have := hn9; rw [if_pos rfl] at this; omega)) Eu18 hR (by rw [if_neg (fun q9 => by cases q9)]; rw [if_pos rfl] at hN; omega) H locs ls h (lv_sub hl [3, 4] rfl)
                · by_cases k4 : nmB (msgF (ga st 32) np (a9 + 1)) (ilS ([])) = true
                  · by_cases k5 : (pqF (ga st 32) np (a9 + 1)).2 = true
                    · rw [pqB, if_neg k1, if_neg k2, if_pos k4, pqE, if_pos k5] at Eu18
                      replace Eu18 : u18 = rqS st (nI ((pqF (ga st 32) np (a9 + 1)).1 + 1), oI none, nI 0, q9 + nI 1, al9, bg9, mi9, upd mk9 (bs + a9) (nI 0), bo9, ot9) := Eu18
                      refine lv_goto (tgt := 307) hx hb dX8_reads_127 (by decide) ?_
                      refine lv_goto (tgt := 20) hx hb dX8_reads_307 (by decide) ?_
                      obtain ⟨m1, m2⟩ := pqF_le (pg := (ga st 32)) (np := np) (a9 + 1)
                      replace m2 := m2 (msg_nm k4)
                      replace hR := (show pqRun (ga st 32) np bs n8 (((pqF (ga st 32) np (a9 + 1)).1 + 1), none, [], q9 + nI 1, upd mk9 (bs + a9) (nI 0), bo9, ot9) = pqRun (ga st 32) np bs n8 (pqStep (ga st 32) np bs (a9, none, [], q9, mk9, bo9, ot9)) by rw [show pqStep (ga st 32) np bs (a9, none, [], q9, mk9, bo9, ot9) = (((pqF (ga st 32) np (a9 + 1)).1 + 1), none, [], q9 + nI 1, upd mk9 (bs + a9) (nI 0), bo9, ot9) by (rw [pqStep_br _ _ _ c119, if_neg k1, if_neg k2, if_pos k4, if_pos k5] <;> rfl)]).trans hR
                      exact ih20 u18 ((pqF (ga st 32) np (a9 + 1)).1 + 1) (none) ([]) (q9 + nI 1) al9 bg9 mi9 (upd mk9 (bs + a9) (nI 0)) bo9 ot9 n8 (by omega) (fun _ q9 => by cases q9) (hS) hS5 ((by rw [if_pos rfl]; have := hn9; rw [if_pos rfl] at this; omega)) Eu18 hR (by rw [if_pos rfl]; rw [if_pos rfl] at hN; omega) H locs ls h (lv_sub hl [3, 4] rfl)
                    · rw [pqB, if_neg k1, if_neg k2, if_pos k4, pqE, if_neg k5] at Eu18
                      replace Eu18 : u18 = rqS st (nI ((pqF (ga st 32) np (a9 + 1)).1 + 1), oI (some (pqF (ga st 32) np (a9 + 1)).1), nI 0, q9 + nI 1, al9, bg9, mi9, upd mk9 (bs + a9) (nI 0), bo9, ot9) := Eu18
                      refine lv_goto (tgt := 307) hx hb dX8_reads_127 (by decide) ?_
                      refine lv_goto (tgt := 20) hx hb dX8_reads_307 (by decide) ?_
                      obtain ⟨m1, m2⟩ := pqF_le (pg := (ga st 32)) (np := np) (a9 + 1)
                      replace m2 := m2 (msg_nm k4)
                      replace hR := (show pqRun (ga st 32) np bs n8 (((pqF (ga st 32) np (a9 + 1)).1 + 1), some (pqF (ga st 32) np (a9 + 1)).1, [], q9 + nI 1, upd mk9 (bs + a9) (nI 0), bo9, ot9) = pqRun (ga st 32) np bs n8 (pqStep (ga st 32) np bs (a9, none, [], q9, mk9, bo9, ot9)) by rw [show pqStep (ga st 32) np bs (a9, none, [], q9, mk9, bo9, ot9) = (((pqF (ga st 32) np (a9 + 1)).1 + 1), some (pqF (ga st 32) np (a9 + 1)).1, [], q9 + nI 1, upd mk9 (bs + a9) (nI 0), bo9, ot9) by (rw [pqStep_br _ _ _ c119, if_neg k1, if_neg k2, if_pos k4, if_neg k5] <;> rfl)]).trans hR
                      exact ih20 u18 ((pqF (ga st 32) np (a9 + 1)).1 + 1) (some (pqF (ga st 32) np (a9 + 1)).1) ([]) (q9 + nI 1) al9 bg9 mi9 (upd mk9 (bs + a9) (nI 0)) bo9 ot9 n8 (by omega) (fun _ q9 => by cases q9; omega) (hS) hS5 ((by rw [if_neg (fun q9 => by cases q9)]; have := hn9; rw [if_pos rfl] at this; omega)) Eu18 hR (by rw [if_neg (fun q9 => by cases q9)]; rw [if_pos rfl] at hN; omega) H locs ls h (lv_sub hl [3, 4] rfl)
                  · rw [pqB, if_neg k1, if_neg k2, if_neg k4] at Eu18
                    replace Eu18 : u18 = rqS st (nI (a9 + 1), oI (some (a9 + 1)), nI 0, q9, al9, bg9, mi9, upd mk9 (bs + a9) (nI 0), bo9, ot9) := Eu18
                    refine lv_goto (tgt := 307) hx hb dX8_reads_127 (by decide) ?_
                    refine lv_goto (tgt := 20) hx hb dX8_reads_307 (by decide) ?_
                    replace hR := (show pqRun (ga st 32) np bs n8 ((a9 + 1), some (a9 + 1), [], q9, upd mk9 (bs + a9) (nI 0), bo9, ot9) = pqRun (ga st 32) np bs n8 (pqStep (ga st 32) np bs (a9, none, [], q9, mk9, bo9, ot9)) by rw [show pqStep (ga st 32) np bs (a9, none, [], q9, mk9, bo9, ot9) = ((a9 + 1), some (a9 + 1), [], q9, upd mk9 (bs + a9) (nI 0), bo9, ot9) by (rw [pqStep_br _ _ _ c119, if_neg k1, if_neg k2, if_neg k4] <;> rfl)]).trans hR
                    exact ih20 u18 (a9 + 1) (some (a9 + 1)) ([]) (q9) al9 bg9 mi9 (upd mk9 (bs + a9) (nI 0)) bo9 ot9 n8 (by omega) (fun _ q9 => by cases q9; omega) (hS) hS5 ((by rw [if_neg (fun q9 => by cases q9)]; have := hn9; rw [if_pos rfl] at this; omega)) Eu18 hR (by rw [if_neg (fun q9 => by cases q9)]; rw [if_pos rfl] at hN; omega) H locs ls h (lv_sub hl [3, 4] rfl)
          · have hS5 : S8.length + 1 ≤ 5 := hS5
            rcases b with _ | _
            · rcases mo with _ | jm
              · replace hv9 : v9 = rqS st (nI a9, oI none, nI (S8.length + 1), q9, al9, bg9, mi9, mk9, bo9, ot9) := hv9
                refine lv_aload_n hx hb dX8_reads_39 rfl (lv_at hl 0 rfl) ?_
                refine gf_X8_7 C h (hM 30 (by decide)) rfl (k2 := 32) rfl dX8_reads_40 ?_
                refine lv_aload_n hx hb dX8_reads_43 rfl (lv_at hl 0 rfl) ?_
                refine gf_X8_134 C h (hM 30 (by decide)) rfl dX8_reads_44 ?_
                refine x_topi (y := nI a9) (by rw [hv9]; exact gi_rm9) ?_
                refine x_ald C h (hM 32 (by decide)) (n := 160) rfl a9 (by omega) (by decide) rfl dX8_reads_47 ?_
                refine x_topi (y := ga st 32 a9) (by rw [hv9, ga_rmo (by decide)]) ?_
                refine lv_istore_n (lv' := [(2, .int (ga st 32 a9)), (0, .ref (ad 30)), (1, .int (nI bs))]) hx hb dX8_reads_48 rfl hl (by decide) rfl (fun ls hl => ?_)
                refine lv_aload_n hx hb dX8_reads_49 rfl (lv_at hl 1 rfl) ?_
                refine gf_X8_127 C h (hM 30 (by decide)) rfl dX8_reads_50 ?_
                refine x_topi (y := nI (S8.length + 1)) (by rw [hv9]; exact gi_rm11) ?_
                refine x_ifN_le (tgt := 74) hx hb dX8_reads_53 (by decide) (by omega) (fun q9 => absurd q9 (by omega)) (fun _ => ?_)
                refine lv_aload_n hx hb dX8_reads_56 rfl (lv_at hl 1 rfl) ?_
                refine gf_X8_28 C h (hM 30 (by decide)) rfl (k2 := 43) rfl dX8_reads_57 ?_
                refine lv_aload_n hx hb dX8_reads_60 rfl (lv_at hl 1 rfl) ?_
                refine gf_X8_127 C h (hM 30 (by decide)) rfl dX8_reads_61 ?_
                refine x_topi (y := nI (S8.length + 1)) (by rw [hv9]; exact gi_rm11) ?_
                refine lv_iconst (v := nI 1) hx hb dX8_reads_64 (by decide) ?_
                refine lv_isub hx hb dX8_reads_65 ?_
                refine x_topi (y := nI S8.length) (pk_sub (by omega)) ?_
                refine x_zald C h (hM 43 (by decide)) rfl S8.length (by omega) rfl dX8_reads_66 ?_
                refine x_topi (y := al9 S8.length) (by rw [hv9, ga_rm43]) ?_
                refine x_topi (y := bi false) hS.1 ?_
                refine x_ifb_ne (tgt := 74) hx hb dX8_reads_67 (by decide) (fun z9 => by cases z9) (fun _ => ?_)
                refine lv_iconst (v := nI 1) hx hb dX8_reads_70 (by decide) ?_
                refine lv_goto (tgt := 75) hx hb dX8_reads_71 (by decide) ?_
                refine lv_istore_n (lv' := [(3, .int (nI 1)), (2, .int (ga st 32 a9)), (0, .ref (ad 30)), (1, .int (nI bs))]) hx hb dX8_reads_75 rfl hl (by decide) rfl (fun ls hl => ?_)
                refine lv_aload_n hx hb dX8_reads_76 rfl (lv_at hl 2 rfl) ?_
                refine gf_X8_127 C h (hM 30 (by decide)) rfl dX8_reads_77 ?_
                refine x_topi (y := nI (S8.length + 1)) (by rw [hv9]; exact gi_rm11) ?_
                refine x_ifN_le (tgt := 101) hx hb dX8_reads_80 (by decide) (by omega) (fun q9 => absurd q9 (by omega)) (fun _ => ?_)
                refine lv_aload_n hx hb dX8_reads_83 rfl (lv_at hl 2 rfl) ?_
                refine gf_X8_28 C h (hM 30 (by decide)) rfl (k2 := 43) rfl dX8_reads_84 ?_
                refine lv_aload_n hx hb dX8_reads_87 rfl (lv_at hl 2 rfl) ?_
                refine gf_X8_127 C h (hM 30 (by decide)) rfl dX8_reads_88 ?_
                refine x_topi (y := nI (S8.length + 1)) (by rw [hv9]; exact gi_rm11) ?_
                refine lv_iconst (v := nI 1) hx hb dX8_reads_91 (by decide) ?_
                refine lv_isub hx hb dX8_reads_92 ?_
                refine x_topi (y := nI S8.length) (pk_sub (by omega)) ?_
                refine x_zald C h (hM 43 (by decide)) rfl S8.length (by omega) rfl dX8_reads_93 ?_
                refine x_topi (y := al9 S8.length) (by rw [hv9, ga_rm43]) ?_
                refine x_topi (y := bi false) hS.1 ?_
                refine x_ifb_eq (tgt := 101) hx hb dX8_reads_94 (by decide) (fun _ => ?_) (fun z9 => by cases z9)
                refine lv_iconst (v := nI 0) hx hb dX8_reads_101 (by decide) ?_
                refine lv_istore (lv' := [(4, .int (nI 0)), (3, .int (nI 1)), (2, .int (ga st 32 a9)), (0, .ref (ad 30)), (1, .int (nI bs))]) hx hb dX8_reads_102 hl (by decide) rfl (fun ls hl => ?_)
                refine lv_aload_n hx hb dX8_reads_104 rfl (lv_at hl 3 rfl) ?_
                refine gf_X8_19 C h (hM 30 (by decide)) rfl (k2 := 36) rfl dX8_reads_105 ?_
                refine lv_iload_n hx hb dX8_reads_108 rfl (lv_at hl 4 rfl) ?_
                refine lv_aload_n hx hb dX8_reads_109 rfl (lv_at hl 3 rfl) ?_
                refine gf_X8_134 C h (hM 30 (by decide)) rfl dX8_reads_110 ?_
                refine x_topi (y := nI a9) (by rw [hv9]; exact gi_rm9) ?_
                refine x_addN hx hb dX8_reads_113 ?_
                refine lv_iconst (v := nI 0) hx hb dX8_reads_114 (by decide) ?_
                refine x_ast C h (hM 36 (by decide)) (n := 1120) rfl (bs + a9) (by omega) (by decide) rfl dX8_reads_115 (fun H locs u20 eu20 h => ?_)
                rw [hv9, ga_rm36, rm_36] at eu20
                refine lv_iload_n hx hb dX8_reads_116 rfl (lv_at hl 2 rfl) ?_
                refine lv_bipush (v := nI 123) hx hb dX8_reads_117 (by decide) ?_
                refine lv_icmp_ne (tgt := 130) hx hb dX8_reads_119 (by decide) (fun c119 => ?_) (fun c119 => ?_)
                · refine lv_iload_n hx hb dX8_reads_130 rfl (lv_at hl 2 rfl) ?_
                  refine lv_bipush (v := nI 125) hx hb dX8_reads_131 (by decide) ?_
                  refine lv_icmp_ne (tgt := 148) hx hb dX8_reads_133 (by decide) (fun c133 => ?_) (fun c133 => ?_)
                  · refine lv_iload_n hx hb dX8_reads_148 rfl (lv_at hl 2 rfl) ?_
                    refine lv_bipush (v := nI 124) hx hb dX8_reads_149 (by decide) ?_
                    refine lv_icmp_ne (tgt := 213) hx hb dX8_reads_151 (by decide) (fun c151 => ?_) (fun c151 => ?_)
                    · refine lv_iload_n hx hb dX8_reads_213 rfl (lv_at hl 2 rfl) ?_
                      refine lv_bipush (v := nI 125) hx hb dX8_reads_214 (by decide) ?_
                      refine lv_icmp_eq (tgt := 225) hx hb dX8_reads_216 (by decide) (fun q9 => absurd q9 c133) (fun _ => ?_)
                      refine lv_iload_n hx hb dX8_reads_219 rfl (lv_at hl 2 rfl) ?_
                      refine lv_bipush (v := nI 124) hx hb dX8_reads_220 (by decide) ?_
                      refine lv_icmp_ne (tgt := 236) hx hb dX8_reads_222 (by decide) (fun _ => ?_) (fun q9 => absurd q9 c151)
                      refine lv_iload_n hx hb dX8_reads_236 rfl (lv_at hl 2 rfl) ?_
                      refine lv_bipush (v := nI 42) hx hb dX8_reads_237 (by decide) ?_
                      refine lv_icmp_ne (tgt := 297) hx hb dX8_reads_239 (by decide) (fun c239 => ?_) (fun c239 => ?_)
                      · refine lv_aload_n hx hb dX8_reads_297 rfl (lv_at hl 3 rfl) ?_
                        refine lv_dup hx hb dX8_reads_298 rfl ?_
                        refine gf_X8_134 C h (hM 30 (by decide)) rfl dX8_reads_299 ?_
                        refine x_topi (y := nI a9) (by rw [eu20]; exact gi_rm9) ?_
                        refine lv_iconst (v := nI 1) hx hb dX8_reads_302 (by decide) ?_
                        refine x_addN hx hb dX8_reads_303 ?_
                        refine pf_X8_134 C h (hM 30 (by decide)) rfl dX8_reads_304 (fun H locs u21 eu21 h => ?_)
                        rw [eu20, rm_9] at eu21
                        refine lv_goto (tgt := 20) hx hb dX8_reads_307 (by decide) ?_
                        replace hR := (show pqRun (ga st 32) np bs n8 ((a9 + 1), none, (false, b0, none) :: S8, q9, upd mk9 (bs + a9) (nI 0), bo9, ot9) = pqRun (ga st 32) np bs n8 (pqStep (ga st 32) np bs (a9, none, (false, b0, none) :: S8, q9, mk9, bo9, ot9)) by rw [show pqStep (ga st 32) np bs (a9, none, (false, b0, none) :: S8, q9, mk9, bo9, ot9) = ((a9 + 1), none, (false, b0, none) :: S8, q9, upd mk9 (bs + a9) (nI 0), bo9, ot9) by (rw [pqStep_n _ _ _ c119, if_neg c133, if_neg c151] <;> rfl)]).trans hR
                        exact ih20 u21 (a9 + 1) (none) ((false, b0, none) :: S8) (q9) al9 bg9 mi9 (upd mk9 (bs + a9) (nI 0)) bo9 ot9 n8 (by omega) (fun _ q9 => by cases q9) (hS) hS5 ((by rw [if_pos rfl]; have := hn9; rw [if_pos rfl] at this; omega)) eu21 hR (by rw [if_pos rfl]; rw [if_pos rfl] at hN; omega) H locs ls h (lv_sub hl [3, 4] rfl)
                      · refine lv_iload hx hb dX8_reads_242 (lv_at hl 0 rfl) ?_
                        refine x_ifN_eq (tgt := 297) hx hb dX8_reads_244 (by decide) (by decide) (fun _ => ?_) (fun z9 => absurd z9 (by decide))
                        refine lv_aload_n hx hb dX8_reads_297 rfl (lv_at hl 3 rfl) ?_
                        refine lv_dup hx hb dX8_reads_298 rfl ?_
                        refine gf_X8_134 C h (hM 30 (by decide)) rfl dX8_reads_299 ?_
                        refine x_topi (y := nI a9) (by rw [eu20]; exact gi_rm9) ?_
                        refine lv_iconst (v := nI 1) hx hb dX8_reads_302 (by decide) ?_
                        refine x_addN hx hb dX8_reads_303 ?_
                        refine pf_X8_134 C h (hM 30 (by decide)) rfl dX8_reads_304 (fun H locs u22 eu22 h => ?_)
                        rw [eu20, rm_9] at eu22
                        refine lv_goto (tgt := 20) hx hb dX8_reads_307 (by decide) ?_
                        replace hR := (show pqRun (ga st 32) np bs n8 ((a9 + 1), none, (false, b0, none) :: S8, q9, upd mk9 (bs + a9) (nI 0), bo9, ot9) = pqRun (ga st 32) np bs n8 (pqStep (ga st 32) np bs (a9, none, (false, b0, none) :: S8, q9, mk9, bo9, ot9)) by rw [show pqStep (ga st 32) np bs (a9, none, (false, b0, none) :: S8, q9, mk9, bo9, ot9) = ((a9 + 1), none, (false, b0, none) :: S8, q9, upd mk9 (bs + a9) (nI 0), bo9, ot9) by (rw [pqStep_n _ _ _ (fun q9 => absurd (c239.symm.trans q9) (by decide)), if_neg (fun q9 => absurd (c239.symm.trans q9) (by decide)), if_neg (fun q9 => absurd (c239.symm.trans q9) (by decide))] <;> rfl)]).trans hR
                        exact ih20 u22 (a9 + 1) (none) ((false, b0, none) :: S8) (q9) al9 bg9 mi9 (upd mk9 (bs + a9) (nI 0)) bo9 ot9 n8 (by omega) (fun _ q9 => by cases q9) (hS) hS5 ((by rw [if_pos rfl]; have := hn9; rw [if_pos rfl] at this; omega)) eu22 hR (by rw [if_pos rfl]; rw [if_pos rfl] at hN; omega) H locs ls h (lv_sub hl [3, 4] rfl)
                    · refine lv_iload_n hx hb dX8_reads_154 rfl (lv_at hl 1 rfl) ?_
                      refine x_ifN_eq (tgt := 213) hx hb dX8_reads_155 (by decide) (by decide) (fun z9 => absurd z9 (by decide)) (fun _ => ?_)
                      refine lv_aload_n hx hb dX8_reads_158 rfl (lv_at hl 3 rfl) ?_
                      refine gf_X8_35 C h (hM 30 (by decide)) rfl (k2 := 45) rfl dX8_reads_159 ?_
                      refine lv_aload_n hx hb dX8_reads_162 rfl (lv_at hl 3 rfl) ?_
                      refine gf_X8_127 C h (hM 30 (by decide)) rfl dX8_reads_163 ?_
                      refine x_topi (y := nI (S8.length + 1)) (by rw [eu20]; exact gi_rm11) ?_
                      refine lv_iconst (v := nI 1) hx hb dX8_reads_166 (by decide) ?_
                      refine lv_isub hx hb dX8_reads_167 ?_
                      refine x_topi (y := nI S8.length) (pk_sub (by omega)) ?_
                      refine x_ald C h (hM 45 (by decide)) (n := 5) rfl S8.length (by omega) (by decide) rfl dX8_reads_168 ?_
                      refine x_topi (y := mi9 S8.length) (by rw [eu20, ga_rm45]) ?_
                      refine x_topi (y := oI none) hS.2.2.1 ?_
                      refine lv_iconst (v := (-1)) hx hb dX8_reads_169 (by decide) ?_
                      refine lv_icmp_ne (tgt := 213) hx hb dX8_reads_170 (by decide) (fun q9 => absurd rfl q9) (fun _ => ?_)
                      refine lv_aload_n hx hb dX8_reads_173 rfl (lv_at hl 3 rfl) ?_
                      refine gf_X8_19 C h (hM 30 (by decide)) rfl (k2 := 36) rfl dX8_reads_174 ?_
                      refine lv_iload_n hx hb dX8_reads_177 rfl (lv_at hl 4 rfl) ?_
                      refine lv_aload_n hx hb dX8_reads_178 rfl (lv_at hl 3 rfl) ?_
                      refine gf_X8_134 C h (hM 30 (by decide)) rfl dX8_reads_179 ?_
                      refine x_topi (y := nI a9) (by rw [eu20]; exact gi_rm9) ?_
                      refine x_addN hx hb dX8_reads_182 ?_
                      refine lv_iconst (v := nI 2) hx hb dX8_reads_183 (by decide) ?_
                      refine x_ast C h (hM 36 (by decide)) (n := 1120) rfl (bs + a9) (by omega) (by decide) rfl dX8_reads_184 (fun H locs u23 eu23 h => ?_)
                      rw [eu20, ga_rm36, rm_36] at eu23
                      refine lv_aload_n hx hb dX8_reads_185 rfl (lv_at hl 3 rfl) ?_
                      refine gf_X8_35 C h (hM 30 (by decide)) rfl (k2 := 45) rfl dX8_reads_186 ?_
                      refine lv_aload_n hx hb dX8_reads_189 rfl (lv_at hl 3 rfl) ?_
                      refine gf_X8_127 C h (hM 30 (by decide)) rfl dX8_reads_190 ?_
                      refine x_topi (y := nI (S8.length + 1)) (by rw [eu23]; exact gi_rm11) ?_
                      refine lv_iconst (v := nI 1) hx hb dX8_reads_193 (by decide) ?_
                      refine lv_isub hx hb dX8_reads_194 ?_
                      refine x_topi (y := nI S8.length) (pk_sub (by omega)) ?_
                      refine lv_aload_n hx hb dX8_reads_195 rfl (lv_at hl 3 rfl) ?_
                      refine gf_X8_134 C h (hM 30 (by decide)) rfl dX8_reads_196 ?_
                      refine x_topi (y := nI a9) (by rw [eu23]; exact gi_rm9) ?_
                      refine x_ast C h (hM 45 (by decide)) (n := 5) rfl S8.length (by omega) (by decide) rfl dX8_reads_199 (fun H locs u24 eu24 h => ?_)
                      rw [eu23, ga_rm45, rm_45] at eu24
                      refine lv_aload_n hx hb dX8_reads_200 rfl (lv_at hl 3 rfl) ?_
                      refine lv_dup hx hb dX8_reads_201 rfl ?_
                      refine gf_X8_134 C h (hM 30 (by decide)) rfl dX8_reads_202 ?_
                      refine x_topi (y := nI a9) (by rw [eu24]; exact gi_rm9) ?_
                      refine lv_iconst (v := nI 1) hx hb dX8_reads_205 (by decide) ?_
                      refine x_addN hx hb dX8_reads_206 ?_
                      refine pf_X8_134 C h (hM 30 (by decide)) rfl dX8_reads_207 (fun H locs u25 eu25 h => ?_)
                      rw [eu24, rm_9] at eu25
                      refine lv_goto (tgt := 307) hx hb dX8_reads_210 (by decide) ?_
                      refine lv_goto (tgt := 20) hx hb dX8_reads_307 (by decide) ?_
                      replace hR := (show pqRun (ga st 32) np bs n8 ((a9 + 1), none, (false, b0, some a9) :: S8, q9, upd (upd mk9 (bs + a9) (nI 0)) (bs + a9) (nI 2), bo9, ot9) = pqRun (ga st 32) np bs n8 (pqStep (ga st 32) np bs (a9, none, (false, b0, none) :: S8, q9, mk9, bo9, ot9)) by rw [show pqStep (ga st 32) np bs (a9, none, (false, b0, none) :: S8, q9, mk9, bo9, ot9) = ((a9 + 1), none, (false, b0, some a9) :: S8, q9, upd (upd mk9 (bs + a9) (nI 0)) (bs + a9) (nI 2), bo9, ot9) by (rw [pqStep_n _ _ _ (fun q9 => absurd (c151.symm.trans q9) (by decide)), if_neg (fun q9 => absurd (c151.symm.trans q9) (by decide)), if_pos c151] <;> rfl)]).trans hR
                      exact ih20 u25 (a9 + 1) (none) ((false, b0, some a9) :: S8) (q9) al9 bg9 (upd mi9 S8.length (nI a9)) (upd (upd mk9 (bs + a9) (nI 0)) (bs + a9) (nI 2)) bo9 ot9 n8 (by omega) (fun _ q9 => by cases q9) ((stOK_mid hS (by omega))) hS5 ((by rw [if_pos rfl]; have := hn9; rw [if_pos rfl] at this; omega)) eu25 hR (by rw [if_pos rfl]; rw [if_pos rfl] at hN; omega) H locs ls h (lv_sub hl [3, 4] rfl)
                  · refine lv_iload_n hx hb dX8_reads_136 rfl (lv_at hl 1 rfl) ?_
                    refine x_ifN_eq (tgt := 148) hx hb dX8_reads_137 (by decide) (by decide) (fun z9 => absurd z9 (by decide)) (fun _ => ?_)
                    refine lv_aload_n hx hb dX8_reads_140 rfl (lv_at hl 3 rfl) ?_
                    refine lv_iload_n hx hb dX8_reads_141 rfl (lv_at hl 4 rfl) ?_
                    rw [eu20] at h
                    refine cl_X8_178 C h (hM 30 (by decide)) rfl (c_X8_closes l D cy ad Ls st hM a9 (by omega) bs (by omega) (oI none) S8.length (by omega) q9 al9 bg9 mi9 (upd mk9 (bs + a9) (nI 0)) bo9 ot9 b0 hS.2.2.2.1 hS.2.1 none hS.2.2.2.2.1 hS.2.2.1) (x_room (by omega)) ⟨Nat.zero_le _, Nat.zero_le _⟩ hl.1 (Nat.le_of_ble_eq_true rfl) dX8_reads_142 (fun u26 H locs hp h => ?_)
                    have Eu26 := hp; clear hp
                    refine lv_goto (tgt := 307) hx hb dX8_reads_145 (by decide) ?_
                    refine lv_goto (tgt := 20) hx hb dX8_reads_307 (by decide) ?_
                    replace hR := (show pqRun (ga st 32) np bs n8 ((a9 + 1), none, S8, q9, upd (upd mk9 (bs + a9) (nI 0)) (bs + a9) (nI 3), bo9, pqO bs b0 a9 none ot9) = pqRun (ga st 32) np bs n8 (pqStep (ga st 32) np bs (a9, none, (false, b0, none) :: S8, q9, mk9, bo9, ot9)) by rw [show pqStep (ga st 32) np bs (a9, none, (false, b0, none) :: S8, q9, mk9, bo9, ot9) = ((a9 + 1), none, S8, q9, upd (upd mk9 (bs + a9) (nI 0)) (bs + a9) (nI 3), bo9, pqO bs b0 a9 none ot9) by (rw [pqStep_n _ _ _ (fun q9 => absurd (c133.symm.trans q9) (by decide)), if_pos c133] <;> rfl)]).trans hR
                    exact ih20 u26 (a9 + 1) (none) (S8) (q9) al9 bg9 mi9 (upd (upd mk9 (bs + a9) (nI 0)) (bs + a9) (nI 3)) bo9 (pqO bs b0 a9 none ot9) n8 (by omega) (fun _ q9 => by cases q9) (hS.2.2.2.2.2) (by omega) ((by rw [if_pos rfl]; have := hn9; rw [if_pos rfl] at this; omega)) Eu26 hR (by rw [if_pos rfl]; rw [if_pos rfl] at hN; omega) H locs ls h (lv_sub hl [3, 4] rfl)
                · refine lv_aload_n hx hb dX8_reads_122 rfl (lv_at hl 3 rfl) ?_
                  refine lv_iload_n hx hb dX8_reads_123 rfl (lv_at hl 4 rfl) ?_
                  rw [eu20] at h
                  refine cl_X8_175 C h (hM 30 (by decide)) rfl (c_X8_brace l D cy ad Ls st hM np hnp160 hnp a9 (by omega) bs (by omega) (S8.length + 1) q9 al9 bg9 mi9 (upd mk9 (bs + a9) (nI 0)) bo9 ot9 (by omega) (lpS ((false, b0, none) :: S8)) (stOK_lp hS)) (x_room (by omega)) ⟨Nat.zero_le _, Nat.zero_le _⟩ hl.1 (Nat.le_of_ble_eq_true rfl) dX8_reads_124 (fun u28 H locs hp h => ?_)
                  have Eu28 : u28 = rqS st (pqB (ga st 32) np (ilS ((false, b0, none) :: S8)) ((false, b0, none) :: S8).length bs a9 q9 al9 bg9 mi9 (upd mk9 (bs + a9) (nI 0)) bo9 ot9) := hp; clear hp
                  by_cases k1 : msgF (ga st 32) np (a9 + 1) = nI 42 ∧ ((false, b0, none) :: S8).length < 5 ∧ (ilS ((false, b0, none) :: S8)) = false
                  · rw [pqB, if_pos k1] at Eu28
                    replace Eu28 : u28 = rqS st (nI (a9 + 1 + 1), oI none, nI (((false, b0, none) :: S8).length + 1), q9 + nI 1, upd al9 ((false, b0, none) :: S8).length (bi true), upd bg9 ((false, b0, none) :: S8).length (nI a9), upd mi9 ((false, b0, none) :: S8).length (-1), upd mk9 (bs + a9) (nI 0), upd bo9 (bs + a9) (nI (a9 + 1 + 1)), ot9) := Eu28
                    refine lv_goto (tgt := 307) hx hb dX8_reads_127 (by decide) ?_
                    refine lv_goto (tgt := 20) hx hb dX8_reads_307 (by decide) ?_
                    replace hR := (show pqRun (ga st 32) np bs n8 ((a9 + 1 + 1), none, (true, a9, none) :: ((false, b0, none) :: S8), q9 + nI 1, upd mk9 (bs + a9) (nI 0), upd bo9 (bs + a9) (nI (a9 + 1 + 1)), ot9) = pqRun (ga st 32) np bs n8 (pqStep (ga st 32) np bs (a9, none, (false, b0, none) :: S8, q9, mk9, bo9, ot9)) by rw [show pqStep (ga st 32) np bs (a9, none, (false, b0, none) :: S8, q9, mk9, bo9, ot9) = ((a9 + 1 + 1), none, (true, a9, none) :: ((false, b0, none) :: S8), q9 + nI 1, upd mk9 (bs + a9) (nI 0), upd bo9 (bs + a9) (nI (a9 + 1 + 1)), ot9) by (rw [pqStep_br _ _ _ c119, if_pos k1] <;> rfl)]).trans hR
                    exact ih20 u28 (a9 + 1 + 1) (none) ((true, a9, none) :: ((false, b0, none) :: S8)) (q9 + nI 1) (upd al9 ((false, b0, none) :: S8).length (bi true)) (upd bg9 ((false, b0, none) :: S8).length (nI a9)) (upd mi9 ((false, b0, none) :: S8).length (-1)) (upd mk9 (bs + a9) (nI 0)) (upd bo9 (bs + a9) (nI (a9 + 1 + 1))) ot9 n8 (by omega) (fun _ q9 => by cases q9) ((stOK_push hS true (by omega))) (by show _ + 1 ≤ 5; have := k1.2.1; omega) ((by rw [if_pos rfl]; have := hn9; rw [if_pos rfl] at this; omega)) Eu28 hR (by rw [if_pos rfl]; rw [if_pos rfl] at hN; omega) H locs ls h (lv_sub hl [3, 4] rfl)
                  · by_cases k2 : msgF (ga st 32) np (a9 + 1) = nI 63 ∧ ((false, b0, none) :: S8).length < 5
                    · by_cases k3 : (pqC (ga st 32) np (ilS ((false, b0, none) :: S8)) (a9 + 1)).2 = true
                      · rw [pqB, if_neg k1, if_pos k2, if_pos k3] at Eu28
                        replace Eu28 : u28 = rqS st (nI (pqC (ga st 32) np (ilS ((false, b0, none) :: S8)) (a9 + 1)).1, oI none, nI (((false, b0, none) :: S8).length + 1), q9 + nI 1, upd al9 ((false, b0, none) :: S8).length (bi false), upd bg9 ((false, b0, none) :: S8).length (nI a9), upd mi9 ((false, b0, none) :: S8).length (-1), upd mk9 (bs + a9) (nI 0), upd bo9 (bs + a9) (nI (pqC (ga st 32) np (ilS ((false, b0, none) :: S8)) (a9 + 1)).1), ot9) := Eu28
                        refine lv_goto (tgt := 307) hx hb dX8_reads_127 (by decide) ?_
                        refine lv_goto (tgt := 20) hx hb dX8_reads_307 (by decide) ?_
                        obtain ⟨m1, m2⟩ := pqC_le (pg := (ga st 32)) (np := np) (il := (ilS ((false, b0, none) :: S8))) (a9 + 1)
                        replace m2 := m2 (msg_lt k2.1 (by decide))
                        replace hR := (show pqRun (ga st 32) np bs n8 ((pqC (ga st 32) np (ilS ((false, b0, none) :: S8)) (a9 + 1)).1, none, (false, a9, none) :: ((false, b0, none) :: S8), q9 + nI 1, upd mk9 (bs + a9) (nI 0), upd bo9 (bs + a9) (nI (pqC (ga st 32) np (ilS ((false, b0, none) :: S8)) (a9 + 1)).1), ot9) = pqRun (ga st 32) np bs n8 (pqStep (ga st 32) np bs (a9, none, (false, b0, none) :: S8, q9, mk9, bo9, ot9)) by rw [show pqStep (ga st 32) np bs (a9, none, (false, b0, none) :: S8, q9, mk9, bo9, ot9) = ((pqC (ga st 32) np (ilS ((false, b0, none) :: S8)) (a9 + 1)).1, none, (false, a9, none) :: ((false, b0, none) :: S8), q9 + nI 1, upd mk9 (bs + a9) (nI 0), upd bo9 (bs + a9) (nI (pqC (ga st 32) np (ilS ((false, b0, none) :: S8)) (a9 + 1)).1), ot9) by (rw [pqStep_br _ _ _ c119, if_neg k1, if_pos k2, if_pos k3] <;> rfl)]).trans hR
                        exact ih20 u28 (pqC (ga st 32) np (ilS ((false, b0, none) :: S8)) (a9 + 1)).1 (none) ((false, a9, none) :: ((false, b0, none) :: S8)) (q9 + nI 1) (upd al9 ((false, b0, none) :: S8).length (bi false)) (upd bg9 ((false, b0, none) :: S8).length (nI a9)) (upd mi9 ((false, b0, none) :: S8).length (-1)) (upd mk9 (bs + a9) (nI 0)) (upd bo9 (bs + a9) (nI (pqC (ga st 32) np (ilS ((false, b0, none) :: S8)) (a9 + 1)).1)) ot9 n8 (by omega) (fun _ q9 => by cases q9) ((stOK_push hS false (by omega))) (by show _ + 1 ≤ 5; have := k2.2; omega) ((by rw [if_pos rfl]; have := hn9; rw [if_pos rfl] at this; omega)) Eu28 hR (by rw [if_pos rfl]; rw [if_pos rfl] at hN; omega) H locs ls h (lv_sub hl [3, 4] rfl)
                      · rw [pqB, if_neg k1, if_pos k2, if_neg k3] at Eu28
                        replace Eu28 : u28 = rqS st (nI (pqC (ga st 32) np (ilS ((false, b0, none) :: S8)) (a9 + 1)).1, oI (some (pqC (ga st 32) np (ilS ((false, b0, none) :: S8)) (a9 + 1)).1), nI (S8.length + 1), q9, al9, bg9, mi9, upd mk9 (bs + a9) (nI 0), upd bo9 (bs + a9) (nI (pqC (ga st 32) np (ilS ((false, b0, none) :: S8)) (a9 + 1)).1), ot9) := Eu28
                        refine lv_goto (tgt := 307) hx hb dX8_reads_127 (by decide) ?_
                        refine lv_goto (tgt := 20) hx hb dX8_reads_307 (by decide) ?_
                        obtain ⟨m1, m2⟩ := pqC_le (pg := (ga st 32)) (np := np) (il := (ilS ((false, b0, none) :: S8))) (a9 + 1)
                        replace m2 := m2 (msg_lt k2.1 (by decide))
                        replace hR := (show pqRun (ga st 32) np bs n8 ((pqC (ga st 32) np (ilS ((false, b0, none) :: S8)) (a9 + 1)).1, some (pqC (ga st 32) np (ilS ((false, b0, none) :: S8)) (a9 + 1)).1, (false, b0, none) :: S8, q9, upd mk9 (bs + a9) (nI 0), upd bo9 (bs + a9) (nI (pqC (ga st 32) np (ilS ((false, b0, none) :: S8)) (a9 + 1)).1), ot9) = pqRun (ga st 32) np bs n8 (pqStep (ga st 32) np bs (a9, none, (false, b0, none) :: S8, q9, mk9, bo9, ot9)) by rw [show pqStep (ga st 32) np bs (a9, none, (false, b0, none) :: S8, q9, mk9, bo9, ot9) = ((pqC (ga st 32) np (ilS ((false, b0, none) :: S8)) (a9 + 1)).1, some (pqC (ga st 32) np (ilS ((false, b0, none) :: S8)) (a9 + 1)).1, (false, b0, none) :: S8, q9, upd mk9 (bs + a9) (nI 0), upd bo9 (bs + a9) (nI (pqC (ga st 32) np (ilS ((false, b0, none) :: S8)) (a9 + 1)).1), ot9) by (rw [pqStep_br _ _ _ c119, if_neg k1, if_pos k2, if_neg k3] <;> rfl)]).trans hR
                        exact ih20 u28 (pqC (ga st 32) np (ilS ((false, b0, none) :: S8)) (a9 + 1)).1 (some (pqC (ga st 32) np (ilS ((false, b0, none) :: S8)) (a9 + 1)).1) ((false, b0, none) :: S8) (q9) al9 bg9 mi9 (upd mk9 (bs + a9) (nI 0)) (upd bo9 (bs + a9) (nI (pqC (ga st 32) np (ilS ((false, b0, none) :: S8)) (a9 + 1)).1)) ot9 n8 (by omega) (fun _ q9 => by cases q9; omega) (hS) hS5 ((by rw [if_neg (fun q9 => by cases q9)]; have := hn9; rw [if_pos rfl] at this; omega)) Eu28 hR (by rw [if_neg (fun q9 => by cases q9)]; rw [if_pos rfl] at hN; omega) H locs ls h (lv_sub hl [3, 4] rfl)
                    · by_cases k4 : nmB (msgF (ga st 32) np (a9 + 1)) (ilS ((false, b0, none) :: S8)) = true
                      · by_cases k5 : (pqF (ga st 32) np (a9 + 1)).2 = true
                        · rw [pqB, if_neg k1, if_neg k2, if_pos k4, pqE, if_pos k5] at Eu28
                          replace Eu28 : u28 = rqS st (nI ((pqF (ga st 32) np (a9 + 1)).1 + 1), oI none, nI (S8.length + 1), q9 + nI 1, al9, bg9, mi9, upd mk9 (bs + a9) (nI 0), bo9, ot9) := Eu28
                          refine lv_goto (tgt := 307) hx hb dX8_reads_127 (by decide) ?_
                          refine lv_goto (tgt := 20) hx hb dX8_reads_307 (by decide) ?_
                          obtain ⟨m1, m2⟩ := pqF_le (pg := (ga st 32)) (np := np) (a9 + 1)
                          replace m2 := m2 (msg_nm k4)
                          replace hR := (show pqRun (ga st 32) np bs n8 (((pqF (ga st 32) np (a9 + 1)).1 + 1), none, (false, b0, none) :: S8, q9 + nI 1, upd mk9 (bs + a9) (nI 0), bo9, ot9) = pqRun (ga st 32) np bs n8 (pqStep (ga st 32) np bs (a9, none, (false, b0, none) :: S8, q9, mk9, bo9, ot9)) by rw [show pqStep (ga st 32) np bs (a9, none, (false, b0, none) :: S8, q9, mk9, bo9, ot9) = (((pqF (ga st 32) np (a9 + 1)).1 + 1), none, (false, b0, none) :: S8, q9 + nI 1, upd mk9 (bs + a9) (nI 0), bo9, ot9) by (rw [pqStep_br _ _ _ c119, if_neg k1, if_neg k2, if_pos k4, if_pos k5] <;> rfl)]).trans hR
                          exact ih20 u28 ((pqF (ga st 32) np (a9 + 1)).1 + 1) (none) ((false, b0, none) :: S8) (q9 + nI 1) al9 bg9 mi9 (upd mk9 (bs + a9) (nI 0)) bo9 ot9 n8 (by omega) (fun _ q9 => by cases q9) (hS) hS5 ((by rw [if_pos rfl]; have := hn9; rw [if_pos rfl] at this; omega)) Eu28 hR (by rw [if_pos rfl]; rw [if_pos rfl] at hN; omega) H locs ls h (lv_sub hl [3, 4] rfl)
                        · rw [pqB, if_neg k1, if_neg k2, if_pos k4, pqE, if_neg k5] at Eu28
                          replace Eu28 : u28 = rqS st (nI ((pqF (ga st 32) np (a9 + 1)).1 + 1), oI (some (pqF (ga st 32) np (a9 + 1)).1), nI (S8.length + 1), q9 + nI 1, al9, bg9, mi9, upd mk9 (bs + a9) (nI 0), bo9, ot9) := Eu28
                          refine lv_goto (tgt := 307) hx hb dX8_reads_127 (by decide) ?_
                          refine lv_goto (tgt := 20) hx hb dX8_reads_307 (by decide) ?_
                          obtain ⟨m1, m2⟩ := pqF_le (pg := (ga st 32)) (np := np) (a9 + 1)
                          replace m2 := m2 (msg_nm k4)
                          replace hR := (show pqRun (ga st 32) np bs n8 (((pqF (ga st 32) np (a9 + 1)).1 + 1), some (pqF (ga st 32) np (a9 + 1)).1, (false, b0, none) :: S8, q9 + nI 1, upd mk9 (bs + a9) (nI 0), bo9, ot9) = pqRun (ga st 32) np bs n8 (pqStep (ga st 32) np bs (a9, none, (false, b0, none) :: S8, q9, mk9, bo9, ot9)) by rw [show pqStep (ga st 32) np bs (a9, none, (false, b0, none) :: S8, q9, mk9, bo9, ot9) = (((pqF (ga st 32) np (a9 + 1)).1 + 1), some (pqF (ga st 32) np (a9 + 1)).1, (false, b0, none) :: S8, q9 + nI 1, upd mk9 (bs + a9) (nI 0), bo9, ot9) by (rw [pqStep_br _ _ _ c119, if_neg k1, if_neg k2, if_pos k4, if_neg k5] <;> rfl)]).trans hR
                          exact ih20 u28 ((pqF (ga st 32) np (a9 + 1)).1 + 1) (some (pqF (ga st 32) np (a9 + 1)).1) ((false, b0, none) :: S8) (q9 + nI 1) al9 bg9 mi9 (upd mk9 (bs + a9) (nI 0)) bo9 ot9 n8 (by omega) (fun _ q9 => by cases q9; omega) (hS) hS5 ((by rw [if_neg (fun q9 => by cases q9)]; have := hn9; rw [if_pos rfl] at this; omega)) Eu28 hR (by rw [if_neg (fun q9 => by cases q9)]; rw [if_pos rfl] at hN; omega) H locs ls h (lv_sub hl [3, 4] rfl)
                      · rw [pqB, if_neg k1, if_neg k2, if_neg k4] at Eu28
                        replace Eu28 : u28 = rqS st (nI (a9 + 1), oI (some (a9 + 1)), nI (S8.length + 1), q9, al9, bg9, mi9, upd mk9 (bs + a9) (nI 0), bo9, ot9) := Eu28
                        refine lv_goto (tgt := 307) hx hb dX8_reads_127 (by decide) ?_
                        refine lv_goto (tgt := 20) hx hb dX8_reads_307 (by decide) ?_
                        replace hR := (show pqRun (ga st 32) np bs n8 ((a9 + 1), some (a9 + 1), (false, b0, none) :: S8, q9, upd mk9 (bs + a9) (nI 0), bo9, ot9) = pqRun (ga st 32) np bs n8 (pqStep (ga st 32) np bs (a9, none, (false, b0, none) :: S8, q9, mk9, bo9, ot9)) by rw [show pqStep (ga st 32) np bs (a9, none, (false, b0, none) :: S8, q9, mk9, bo9, ot9) = ((a9 + 1), some (a9 + 1), (false, b0, none) :: S8, q9, upd mk9 (bs + a9) (nI 0), bo9, ot9) by (rw [pqStep_br _ _ _ c119, if_neg k1, if_neg k2, if_neg k4] <;> rfl)]).trans hR
                        exact ih20 u28 (a9 + 1) (some (a9 + 1)) ((false, b0, none) :: S8) (q9) al9 bg9 mi9 (upd mk9 (bs + a9) (nI 0)) bo9 ot9 n8 (by omega) (fun _ q9 => by cases q9; omega) (hS) hS5 ((by rw [if_neg (fun q9 => by cases q9)]; have := hn9; rw [if_pos rfl] at this; omega)) Eu28 hR (by rw [if_neg (fun q9 => by cases q9)]; rw [if_pos rfl] at hN; omega) H locs ls h (lv_sub hl [3, 4] rfl)
              · have hjm := hS.2.2.2.2.1 jm rfl
                replace hv9 : v9 = rqS st (nI a9, oI none, nI (S8.length + 1), q9, al9, bg9, mi9, mk9, bo9, ot9) := hv9
                refine lv_aload_n hx hb dX8_reads_39 rfl (lv_at hl 0 rfl) ?_
                refine gf_X8_7 C h (hM 30 (by decide)) rfl (k2 := 32) rfl dX8_reads_40 ?_
                refine lv_aload_n hx hb dX8_reads_43 rfl (lv_at hl 0 rfl) ?_
                refine gf_X8_134 C h (hM 30 (by decide)) rfl dX8_reads_44 ?_
                refine x_topi (y := nI a9) (by rw [hv9]; exact gi_rm9) ?_
                refine x_ald C h (hM 32 (by decide)) (n := 160) rfl a9 (by omega) (by decide) rfl dX8_reads_47 ?_
                refine x_topi (y := ga st 32 a9) (by rw [hv9, ga_rmo (by decide)]) ?_
                refine lv_istore_n (lv' := [(2, .int (ga st 32 a9)), (0, .ref (ad 30)), (1, .int (nI bs))]) hx hb dX8_reads_48 rfl hl (by decide) rfl (fun ls hl => ?_)
                refine lv_aload_n hx hb dX8_reads_49 rfl (lv_at hl 1 rfl) ?_
                refine gf_X8_127 C h (hM 30 (by decide)) rfl dX8_reads_50 ?_
                refine x_topi (y := nI (S8.length + 1)) (by rw [hv9]; exact gi_rm11) ?_
                refine x_ifN_le (tgt := 74) hx hb dX8_reads_53 (by decide) (by omega) (fun q9 => absurd q9 (by omega)) (fun _ => ?_)
                refine lv_aload_n hx hb dX8_reads_56 rfl (lv_at hl 1 rfl) ?_
                refine gf_X8_28 C h (hM 30 (by decide)) rfl (k2 := 43) rfl dX8_reads_57 ?_
                refine lv_aload_n hx hb dX8_reads_60 rfl (lv_at hl 1 rfl) ?_
                refine gf_X8_127 C h (hM 30 (by decide)) rfl dX8_reads_61 ?_
                refine x_topi (y := nI (S8.length + 1)) (by rw [hv9]; exact gi_rm11) ?_
                refine lv_iconst (v := nI 1) hx hb dX8_reads_64 (by decide) ?_
                refine lv_isub hx hb dX8_reads_65 ?_
                refine x_topi (y := nI S8.length) (pk_sub (by omega)) ?_
                refine x_zald C h (hM 43 (by decide)) rfl S8.length (by omega) rfl dX8_reads_66 ?_
                refine x_topi (y := al9 S8.length) (by rw [hv9, ga_rm43]) ?_
                refine x_topi (y := bi false) hS.1 ?_
                refine x_ifb_ne (tgt := 74) hx hb dX8_reads_67 (by decide) (fun z9 => by cases z9) (fun _ => ?_)
                refine lv_iconst (v := nI 1) hx hb dX8_reads_70 (by decide) ?_
                refine lv_goto (tgt := 75) hx hb dX8_reads_71 (by decide) ?_
                refine lv_istore_n (lv' := [(3, .int (nI 1)), (2, .int (ga st 32 a9)), (0, .ref (ad 30)), (1, .int (nI bs))]) hx hb dX8_reads_75 rfl hl (by decide) rfl (fun ls hl => ?_)
                refine lv_aload_n hx hb dX8_reads_76 rfl (lv_at hl 2 rfl) ?_
                refine gf_X8_127 C h (hM 30 (by decide)) rfl dX8_reads_77 ?_
                refine x_topi (y := nI (S8.length + 1)) (by rw [hv9]; exact gi_rm11) ?_
                refine x_ifN_le (tgt := 101) hx hb dX8_reads_80 (by decide) (by omega) (fun q9 => absurd q9 (by omega)) (fun _ => ?_)
                refine lv_aload_n hx hb dX8_reads_83 rfl (lv_at hl 2 rfl) ?_
                refine gf_X8_28 C h (hM 30 (by decide)) rfl (k2 := 43) rfl dX8_reads_84 ?_
                refine lv_aload_n hx hb dX8_reads_87 rfl (lv_at hl 2 rfl) ?_
                refine gf_X8_127 C h (hM 30 (by decide)) rfl dX8_reads_88 ?_
                refine x_topi (y := nI (S8.length + 1)) (by rw [hv9]; exact gi_rm11) ?_
                refine lv_iconst (v := nI 1) hx hb dX8_reads_91 (by decide) ?_
                refine lv_isub hx hb dX8_reads_92 ?_
                refine x_topi (y := nI S8.length) (pk_sub (by omega)) ?_
                refine x_zald C h (hM 43 (by decide)) rfl S8.length (by omega) rfl dX8_reads_93 ?_
                refine x_topi (y := al9 S8.length) (by rw [hv9, ga_rm43]) ?_
                refine x_topi (y := bi false) hS.1 ?_
                refine x_ifb_eq (tgt := 101) hx hb dX8_reads_94 (by decide) (fun _ => ?_) (fun z9 => by cases z9)
                refine lv_iconst (v := nI 0) hx hb dX8_reads_101 (by decide) ?_
                refine lv_istore (lv' := [(4, .int (nI 0)), (3, .int (nI 1)), (2, .int (ga st 32 a9)), (0, .ref (ad 30)), (1, .int (nI bs))]) hx hb dX8_reads_102 hl (by decide) rfl (fun ls hl => ?_)
                refine lv_aload_n hx hb dX8_reads_104 rfl (lv_at hl 3 rfl) ?_
                refine gf_X8_19 C h (hM 30 (by decide)) rfl (k2 := 36) rfl dX8_reads_105 ?_
                refine lv_iload_n hx hb dX8_reads_108 rfl (lv_at hl 4 rfl) ?_
                refine lv_aload_n hx hb dX8_reads_109 rfl (lv_at hl 3 rfl) ?_
                refine gf_X8_134 C h (hM 30 (by decide)) rfl dX8_reads_110 ?_
                refine x_topi (y := nI a9) (by rw [hv9]; exact gi_rm9) ?_
                refine x_addN hx hb dX8_reads_113 ?_
                refine lv_iconst (v := nI 0) hx hb dX8_reads_114 (by decide) ?_
                refine x_ast C h (hM 36 (by decide)) (n := 1120) rfl (bs + a9) (by omega) (by decide) rfl dX8_reads_115 (fun H locs u30 eu30 h => ?_)
                rw [hv9, ga_rm36, rm_36] at eu30
                refine lv_iload_n hx hb dX8_reads_116 rfl (lv_at hl 2 rfl) ?_
                refine lv_bipush (v := nI 123) hx hb dX8_reads_117 (by decide) ?_
                refine lv_icmp_ne (tgt := 130) hx hb dX8_reads_119 (by decide) (fun c119 => ?_) (fun c119 => ?_)
                · refine lv_iload_n hx hb dX8_reads_130 rfl (lv_at hl 2 rfl) ?_
                  refine lv_bipush (v := nI 125) hx hb dX8_reads_131 (by decide) ?_
                  refine lv_icmp_ne (tgt := 148) hx hb dX8_reads_133 (by decide) (fun c133 => ?_) (fun c133 => ?_)
                  · refine lv_iload_n hx hb dX8_reads_148 rfl (lv_at hl 2 rfl) ?_
                    refine lv_bipush (v := nI 124) hx hb dX8_reads_149 (by decide) ?_
                    refine lv_icmp_ne (tgt := 213) hx hb dX8_reads_151 (by decide) (fun c151 => ?_) (fun c151 => ?_)
                    · refine lv_iload_n hx hb dX8_reads_213 rfl (lv_at hl 2 rfl) ?_
                      refine lv_bipush (v := nI 125) hx hb dX8_reads_214 (by decide) ?_
                      refine lv_icmp_eq (tgt := 225) hx hb dX8_reads_216 (by decide) (fun q9 => absurd q9 c133) (fun _ => ?_)
                      refine lv_iload_n hx hb dX8_reads_219 rfl (lv_at hl 2 rfl) ?_
                      refine lv_bipush (v := nI 124) hx hb dX8_reads_220 (by decide) ?_
                      refine lv_icmp_ne (tgt := 236) hx hb dX8_reads_222 (by decide) (fun _ => ?_) (fun q9 => absurd q9 c151)
                      refine lv_iload_n hx hb dX8_reads_236 rfl (lv_at hl 2 rfl) ?_
                      refine lv_bipush (v := nI 42) hx hb dX8_reads_237 (by decide) ?_
                      refine lv_icmp_ne (tgt := 297) hx hb dX8_reads_239 (by decide) (fun c239 => ?_) (fun c239 => ?_)
                      · refine lv_aload_n hx hb dX8_reads_297 rfl (lv_at hl 3 rfl) ?_
                        refine lv_dup hx hb dX8_reads_298 rfl ?_
                        refine gf_X8_134 C h (hM 30 (by decide)) rfl dX8_reads_299 ?_
                        refine x_topi (y := nI a9) (by rw [eu30]; exact gi_rm9) ?_
                        refine lv_iconst (v := nI 1) hx hb dX8_reads_302 (by decide) ?_
                        refine x_addN hx hb dX8_reads_303 ?_
                        refine pf_X8_134 C h (hM 30 (by decide)) rfl dX8_reads_304 (fun H locs u31 eu31 h => ?_)
                        rw [eu30, rm_9] at eu31
                        refine lv_goto (tgt := 20) hx hb dX8_reads_307 (by decide) ?_
                        replace hR := (show pqRun (ga st 32) np bs n8 ((a9 + 1), none, (false, b0, some jm) :: S8, q9, upd mk9 (bs + a9) (nI 0), bo9, ot9) = pqRun (ga st 32) np bs n8 (pqStep (ga st 32) np bs (a9, none, (false, b0, some jm) :: S8, q9, mk9, bo9, ot9)) by rw [show pqStep (ga st 32) np bs (a9, none, (false, b0, some jm) :: S8, q9, mk9, bo9, ot9) = ((a9 + 1), none, (false, b0, some jm) :: S8, q9, upd mk9 (bs + a9) (nI 0), bo9, ot9) by (rw [pqStep_s _ _ _ c119, if_neg c133, if_neg c151] <;> rfl)]).trans hR
                        exact ih20 u31 (a9 + 1) (none) ((false, b0, some jm) :: S8) (q9) al9 bg9 mi9 (upd mk9 (bs + a9) (nI 0)) bo9 ot9 n8 (by omega) (fun _ q9 => by cases q9) (hS) hS5 ((by rw [if_pos rfl]; have := hn9; rw [if_pos rfl] at this; omega)) eu31 hR (by rw [if_pos rfl]; rw [if_pos rfl] at hN; omega) H locs ls h (lv_sub hl [3, 4] rfl)
                      · refine lv_iload hx hb dX8_reads_242 (lv_at hl 0 rfl) ?_
                        refine x_ifN_eq (tgt := 297) hx hb dX8_reads_244 (by decide) (by decide) (fun _ => ?_) (fun z9 => absurd z9 (by decide))
                        refine lv_aload_n hx hb dX8_reads_297 rfl (lv_at hl 3 rfl) ?_
                        refine lv_dup hx hb dX8_reads_298 rfl ?_
                        refine gf_X8_134 C h (hM 30 (by decide)) rfl dX8_reads_299 ?_
                        refine x_topi (y := nI a9) (by rw [eu30]; exact gi_rm9) ?_
                        refine lv_iconst (v := nI 1) hx hb dX8_reads_302 (by decide) ?_
                        refine x_addN hx hb dX8_reads_303 ?_
                        refine pf_X8_134 C h (hM 30 (by decide)) rfl dX8_reads_304 (fun H locs u32 eu32 h => ?_)
                        rw [eu30, rm_9] at eu32
                        refine lv_goto (tgt := 20) hx hb dX8_reads_307 (by decide) ?_
                        replace hR := (show pqRun (ga st 32) np bs n8 ((a9 + 1), none, (false, b0, some jm) :: S8, q9, upd mk9 (bs + a9) (nI 0), bo9, ot9) = pqRun (ga st 32) np bs n8 (pqStep (ga st 32) np bs (a9, none, (false, b0, some jm) :: S8, q9, mk9, bo9, ot9)) by rw [show pqStep (ga st 32) np bs (a9, none, (false, b0, some jm) :: S8, q9, mk9, bo9, ot9) = ((a9 + 1), none, (false, b0, some jm) :: S8, q9, upd mk9 (bs + a9) (nI 0), bo9, ot9) by (rw [pqStep_s _ _ _ (fun q9 => absurd (c239.symm.trans q9) (by decide)), if_neg (fun q9 => absurd (c239.symm.trans q9) (by decide)), if_neg (fun q9 => absurd (c239.symm.trans q9) (by decide))] <;> rfl)]).trans hR
                        exact ih20 u32 (a9 + 1) (none) ((false, b0, some jm) :: S8) (q9) al9 bg9 mi9 (upd mk9 (bs + a9) (nI 0)) bo9 ot9 n8 (by omega) (fun _ q9 => by cases q9) (hS) hS5 ((by rw [if_pos rfl]; have := hn9; rw [if_pos rfl] at this; omega)) eu32 hR (by rw [if_pos rfl]; rw [if_pos rfl] at hN; omega) H locs ls h (lv_sub hl [3, 4] rfl)
                    · refine lv_iload_n hx hb dX8_reads_154 rfl (lv_at hl 1 rfl) ?_
                      refine x_ifN_eq (tgt := 213) hx hb dX8_reads_155 (by decide) (by decide) (fun z9 => absurd z9 (by decide)) (fun _ => ?_)
                      refine lv_aload_n hx hb dX8_reads_158 rfl (lv_at hl 3 rfl) ?_
                      refine gf_X8_35 C h (hM 30 (by decide)) rfl (k2 := 45) rfl dX8_reads_159 ?_
                      refine lv_aload_n hx hb dX8_reads_162 rfl (lv_at hl 3 rfl) ?_
                      refine gf_X8_127 C h (hM 30 (by decide)) rfl dX8_reads_163 ?_
                      refine x_topi (y := nI (S8.length + 1)) (by rw [eu30]; exact gi_rm11) ?_
                      refine lv_iconst (v := nI 1) hx hb dX8_reads_166 (by decide) ?_
                      refine lv_isub hx hb dX8_reads_167 ?_
                      refine x_topi (y := nI S8.length) (pk_sub (by omega)) ?_
                      refine x_ald C h (hM 45 (by decide)) (n := 5) rfl S8.length (by omega) (by decide) rfl dX8_reads_168 ?_
                      refine x_topi (y := mi9 S8.length) (by rw [eu30, ga_rm45]) ?_
                      refine x_topi (y := oI (some jm)) hS.2.2.1 ?_
                      refine lv_iconst (v := (-1)) hx hb dX8_reads_169 (by decide) ?_
                      refine lv_icmp_ne (tgt := 213) hx hb dX8_reads_170 (by decide) (fun _ => ?_) (fun q9 => absurd q9 (nI_ne1 (by omega)))
                      refine lv_iload_n hx hb dX8_reads_213 rfl (lv_at hl 2 rfl) ?_
                      refine lv_bipush (v := nI 125) hx hb dX8_reads_214 (by decide) ?_
                      refine lv_icmp_eq (tgt := 225) hx hb dX8_reads_216 (by decide) (fun q9 => absurd (c151.symm.trans q9) (by decide)) (fun _ => ?_)
                      refine lv_iload_n hx hb dX8_reads_219 rfl (lv_at hl 2 rfl) ?_
                      refine lv_bipush (v := nI 124) hx hb dX8_reads_220 (by decide) ?_
                      refine lv_icmp_ne (tgt := 236) hx hb dX8_reads_222 (by decide) (fun q9 => absurd c151 q9) (fun _ => ?_)
                      refine lv_aload_n hx hb dX8_reads_225 rfl (lv_at hl 3 rfl) ?_
                      refine lv_aload_n hx hb dX8_reads_226 rfl (lv_at hl 3 rfl) ?_
                      refine gf_X8_134 C h (hM 30 (by decide)) rfl dX8_reads_227 ?_
                      refine x_topi (y := nI a9) (by rw [eu30]; exact gi_rm9) ?_
                      refine pf_X8_148 C h (hM 30 (by decide)) rfl dX8_reads_230 (fun H locs u33 eu33 h => ?_)
                      rw [eu30, rm_10] at eu33
                      refine lv_goto (tgt := 307) hx hb dX8_reads_233 (by decide) ?_
                      refine lv_goto (tgt := 20) hx hb dX8_reads_307 (by decide) ?_
                      replace hR := (show pqRun (ga st 32) np bs n8 (a9, some a9, (false, b0, some jm) :: S8, q9, upd mk9 (bs + a9) (nI 0), bo9, ot9) = pqRun (ga st 32) np bs n8 (pqStep (ga st 32) np bs (a9, none, (false, b0, some jm) :: S8, q9, mk9, bo9, ot9)) by rw [show pqStep (ga st 32) np bs (a9, none, (false, b0, some jm) :: S8, q9, mk9, bo9, ot9) = (a9, some a9, (false, b0, some jm) :: S8, q9, upd mk9 (bs + a9) (nI 0), bo9, ot9) by (rw [pqStep_s _ _ _ (fun q9 => absurd (c151.symm.trans q9) (by decide)), if_neg (fun q9 => absurd (c151.symm.trans q9) (by decide)), if_pos c151] <;> rfl)]).trans hR
                      exact ih20 u33 a9 (some a9) ((false, b0, some jm) :: S8) (q9) al9 bg9 mi9 (upd mk9 (bs + a9) (nI 0)) bo9 ot9 n8 (by omega) (fun _ q9 => by cases q9; omega) (hS) hS5 ((by rw [if_neg (fun q9 => by cases q9)]; have := hn9; rw [if_pos rfl] at this; omega)) eu33 hR (by rw [if_neg (fun q9 => by cases q9)]; rw [if_pos rfl] at hN; omega) H locs ls h (lv_sub hl [3, 4] rfl)
                  · refine lv_iload_n hx hb dX8_reads_136 rfl (lv_at hl 1 rfl) ?_
                    refine x_ifN_eq (tgt := 148) hx hb dX8_reads_137 (by decide) (by decide) (fun z9 => absurd z9 (by decide)) (fun _ => ?_)
                    refine lv_aload_n hx hb dX8_reads_140 rfl (lv_at hl 3 rfl) ?_
                    refine lv_iload_n hx hb dX8_reads_141 rfl (lv_at hl 4 rfl) ?_
                    rw [eu30] at h
                    refine cl_X8_178 C h (hM 30 (by decide)) rfl (c_X8_closes l D cy ad Ls st hM a9 (by omega) bs (by omega) (oI none) S8.length (by omega) q9 al9 bg9 mi9 (upd mk9 (bs + a9) (nI 0)) bo9 ot9 b0 hS.2.2.2.1 hS.2.1 (some jm) hS.2.2.2.2.1 hS.2.2.1) (x_room (by omega)) ⟨Nat.zero_le _, Nat.zero_le _⟩ hl.1 (Nat.le_of_ble_eq_true rfl) dX8_reads_142 (fun u34 H locs hp h => ?_)
                    have Eu34 := hp; clear hp
                    refine lv_goto (tgt := 307) hx hb dX8_reads_145 (by decide) ?_
                    refine lv_goto (tgt := 20) hx hb dX8_reads_307 (by decide) ?_
                    replace hR := (show pqRun (ga st 32) np bs n8 ((a9 + 1), none, S8, q9, upd (upd mk9 (bs + a9) (nI 0)) (bs + a9) (nI 3), bo9, pqO bs b0 a9 (some jm) ot9) = pqRun (ga st 32) np bs n8 (pqStep (ga st 32) np bs (a9, none, (false, b0, some jm) :: S8, q9, mk9, bo9, ot9)) by rw [show pqStep (ga st 32) np bs (a9, none, (false, b0, some jm) :: S8, q9, mk9, bo9, ot9) = ((a9 + 1), none, S8, q9, upd (upd mk9 (bs + a9) (nI 0)) (bs + a9) (nI 3), bo9, pqO bs b0 a9 (some jm) ot9) by (rw [pqStep_s _ _ _ (fun q9 => absurd (c133.symm.trans q9) (by decide)), if_pos c133] <;> rfl)]).trans hR
                    exact ih20 u34 (a9 + 1) (none) (S8) (q9) al9 bg9 mi9 (upd (upd mk9 (bs + a9) (nI 0)) (bs + a9) (nI 3)) bo9 (pqO bs b0 a9 (some jm) ot9) n8 (by omega) (fun _ q9 => by cases q9) (hS.2.2.2.2.2) (by omega) ((by rw [if_pos rfl]; have := hn9; rw [if_pos rfl] at this; omega)) Eu34 hR (by rw [if_pos rfl]; rw [if_pos rfl] at hN; omega) H locs ls h (lv_sub hl [3, 4] rfl)
                · refine lv_aload_n hx hb dX8_reads_122 rfl (lv_at hl 3 rfl) ?_
                  refine lv_iload_n hx hb dX8_reads_123 rfl (lv_at hl 4 rfl) ?_
                  rw [eu30] at h
                  refine cl_X8_175 C h (hM 30 (by decide)) rfl (c_X8_brace l D cy ad Ls st hM np hnp160 hnp a9 (by omega) bs (by omega) (S8.length + 1) q9 al9 bg9 mi9 (upd mk9 (bs + a9) (nI 0)) bo9 ot9 (by omega) (lpS ((false, b0, some jm) :: S8)) (stOK_lp hS)) (x_room (by omega)) ⟨Nat.zero_le _, Nat.zero_le _⟩ hl.1 (Nat.le_of_ble_eq_true rfl) dX8_reads_124 (fun u36 H locs hp h => ?_)
                  have Eu36 : u36 = rqS st (pqB (ga st 32) np (ilS ((false, b0, some jm) :: S8)) ((false, b0, some jm) :: S8).length bs a9 q9 al9 bg9 mi9 (upd mk9 (bs + a9) (nI 0)) bo9 ot9) := hp; clear hp
                  by_cases k1 : msgF (ga st 32) np (a9 + 1) = nI 42 ∧ ((false, b0, some jm) :: S8).length < 5 ∧ (ilS ((false, b0, some jm) :: S8)) = false
                  · rw [pqB, if_pos k1] at Eu36
                    replace Eu36 : u36 = rqS st (nI (a9 + 1 + 1), oI none, nI (((false, b0, some jm) :: S8).length + 1), q9 + nI 1, upd al9 ((false, b0, some jm) :: S8).length (bi true), upd bg9 ((false, b0, some jm) :: S8).length (nI a9), upd mi9 ((false, b0, some jm) :: S8).length (-1), upd mk9 (bs + a9) (nI 0), upd bo9 (bs + a9) (nI (a9 + 1 + 1)), ot9) := Eu36
                    refine lv_goto (tgt := 307) hx hb dX8_reads_127 (by decide) ?_
                    refine lv_goto (tgt := 20) hx hb dX8_reads_307 (by decide) ?_
                    replace hR := (show pqRun (ga st 32) np bs n8 ((a9 + 1 + 1), none, (true, a9, none) :: ((false, b0, some jm) :: S8), q9 + nI 1, upd mk9 (bs + a9) (nI 0), upd bo9 (bs + a9) (nI (a9 + 1 + 1)), ot9) = pqRun (ga st 32) np bs n8 (pqStep (ga st 32) np bs (a9, none, (false, b0, some jm) :: S8, q9, mk9, bo9, ot9)) by rw [show pqStep (ga st 32) np bs (a9, none, (false, b0, some jm) :: S8, q9, mk9, bo9, ot9) = ((a9 + 1 + 1), none, (true, a9, none) :: ((false, b0, some jm) :: S8), q9 + nI 1, upd mk9 (bs + a9) (nI 0), upd bo9 (bs + a9) (nI (a9 + 1 + 1)), ot9) by (rw [pqStep_br _ _ _ c119, if_pos k1] <;> rfl)]).trans hR
                    exact ih20 u36 (a9 + 1 + 1) (none) ((true, a9, none) :: ((false, b0, some jm) :: S8)) (q9 + nI 1) (upd al9 ((false, b0, some jm) :: S8).length (bi true)) (upd bg9 ((false, b0, some jm) :: S8).length (nI a9)) (upd mi9 ((false, b0, some jm) :: S8).length (-1)) (upd mk9 (bs + a9) (nI 0)) (upd bo9 (bs + a9) (nI (a9 + 1 + 1))) ot9 n8 (by omega) (fun _ q9 => by cases q9) ((stOK_push hS true (by omega))) (by show _ + 1 ≤ 5; have := k1.2.1; omega) ((by rw [if_pos rfl]; have := hn9; rw [if_pos rfl] at this; omega)) Eu36 hR (by rw [if_pos rfl]; rw [if_pos rfl] at hN; omega) H locs ls h (lv_sub hl [3, 4] rfl)
                  · by_cases k2 : msgF (ga st 32) np (a9 + 1) = nI 63 ∧ ((false, b0, some jm) :: S8).length < 5
                    · by_cases k3 : (pqC (ga st 32) np (ilS ((false, b0, some jm) :: S8)) (a9 + 1)).2 = true
                      · rw [pqB, if_neg k1, if_pos k2, if_pos k3] at Eu36
                        replace Eu36 : u36 = rqS st (nI (pqC (ga st 32) np (ilS ((false, b0, some jm) :: S8)) (a9 + 1)).1, oI none, nI (((false, b0, some jm) :: S8).length + 1), q9 + nI 1, upd al9 ((false, b0, some jm) :: S8).length (bi false), upd bg9 ((false, b0, some jm) :: S8).length (nI a9), upd mi9 ((false, b0, some jm) :: S8).length (-1), upd mk9 (bs + a9) (nI 0), upd bo9 (bs + a9) (nI (pqC (ga st 32) np (ilS ((false, b0, some jm) :: S8)) (a9 + 1)).1), ot9) := Eu36
                        refine lv_goto (tgt := 307) hx hb dX8_reads_127 (by decide) ?_
                        refine lv_goto (tgt := 20) hx hb dX8_reads_307 (by decide) ?_
                        obtain ⟨m1, m2⟩ := pqC_le (pg := (ga st 32)) (np := np) (il := (ilS ((false, b0, some jm) :: S8))) (a9 + 1)
                        replace m2 := m2 (msg_lt k2.1 (by decide))
                        replace hR := (show pqRun (ga st 32) np bs n8 ((pqC (ga st 32) np (ilS ((false, b0, some jm) :: S8)) (a9 + 1)).1, none, (false, a9, none) :: ((false, b0, some jm) :: S8), q9 + nI 1, upd mk9 (bs + a9) (nI 0), upd bo9 (bs + a9) (nI (pqC (ga st 32) np (ilS ((false, b0, some jm) :: S8)) (a9 + 1)).1), ot9) = pqRun (ga st 32) np bs n8 (pqStep (ga st 32) np bs (a9, none, (false, b0, some jm) :: S8, q9, mk9, bo9, ot9)) by rw [show pqStep (ga st 32) np bs (a9, none, (false, b0, some jm) :: S8, q9, mk9, bo9, ot9) = ((pqC (ga st 32) np (ilS ((false, b0, some jm) :: S8)) (a9 + 1)).1, none, (false, a9, none) :: ((false, b0, some jm) :: S8), q9 + nI 1, upd mk9 (bs + a9) (nI 0), upd bo9 (bs + a9) (nI (pqC (ga st 32) np (ilS ((false, b0, some jm) :: S8)) (a9 + 1)).1), ot9) by (rw [pqStep_br _ _ _ c119, if_neg k1, if_pos k2, if_pos k3] <;> rfl)]).trans hR
                        exact ih20 u36 (pqC (ga st 32) np (ilS ((false, b0, some jm) :: S8)) (a9 + 1)).1 (none) ((false, a9, none) :: ((false, b0, some jm) :: S8)) (q9 + nI 1) (upd al9 ((false, b0, some jm) :: S8).length (bi false)) (upd bg9 ((false, b0, some jm) :: S8).length (nI a9)) (upd mi9 ((false, b0, some jm) :: S8).length (-1)) (upd mk9 (bs + a9) (nI 0)) (upd bo9 (bs + a9) (nI (pqC (ga st 32) np (ilS ((false, b0, some jm) :: S8)) (a9 + 1)).1)) ot9 n8 (by omega) (fun _ q9 => by cases q9) ((stOK_push hS false (by omega))) (by show _ + 1 ≤ 5; have := k2.2; omega) ((by rw [if_pos rfl]; have := hn9; rw [if_pos rfl] at this; omega)) Eu36 hR (by rw [if_pos rfl]; rw [if_pos rfl] at hN; omega) H locs ls h (lv_sub hl [3, 4] rfl)
                      · rw [pqB, if_neg k1, if_pos k2, if_neg k3] at Eu36
                        replace Eu36 : u36 = rqS st (nI (pqC (ga st 32) np (ilS ((false, b0, some jm) :: S8)) (a9 + 1)).1, oI (some (pqC (ga st 32) np (ilS ((false, b0, some jm) :: S8)) (a9 + 1)).1), nI (S8.length + 1), q9, al9, bg9, mi9, upd mk9 (bs + a9) (nI 0), upd bo9 (bs + a9) (nI (pqC (ga st 32) np (ilS ((false, b0, some jm) :: S8)) (a9 + 1)).1), ot9) := Eu36
                        refine lv_goto (tgt := 307) hx hb dX8_reads_127 (by decide) ?_
                        refine lv_goto (tgt := 20) hx hb dX8_reads_307 (by decide) ?_
                        obtain ⟨m1, m2⟩ := pqC_le (pg := (ga st 32)) (np := np) (il := (ilS ((false, b0, some jm) :: S8))) (a9 + 1)
                        replace m2 := m2 (msg_lt k2.1 (by decide))
                        replace hR := (show pqRun (ga st 32) np bs n8 ((pqC (ga st 32) np (ilS ((false, b0, some jm) :: S8)) (a9 + 1)).1, some (pqC (ga st 32) np (ilS ((false, b0, some jm) :: S8)) (a9 + 1)).1, (false, b0, some jm) :: S8, q9, upd mk9 (bs + a9) (nI 0), upd bo9 (bs + a9) (nI (pqC (ga st 32) np (ilS ((false, b0, some jm) :: S8)) (a9 + 1)).1), ot9) = pqRun (ga st 32) np bs n8 (pqStep (ga st 32) np bs (a9, none, (false, b0, some jm) :: S8, q9, mk9, bo9, ot9)) by rw [show pqStep (ga st 32) np bs (a9, none, (false, b0, some jm) :: S8, q9, mk9, bo9, ot9) = ((pqC (ga st 32) np (ilS ((false, b0, some jm) :: S8)) (a9 + 1)).1, some (pqC (ga st 32) np (ilS ((false, b0, some jm) :: S8)) (a9 + 1)).1, (false, b0, some jm) :: S8, q9, upd mk9 (bs + a9) (nI 0), upd bo9 (bs + a9) (nI (pqC (ga st 32) np (ilS ((false, b0, some jm) :: S8)) (a9 + 1)).1), ot9) by (rw [pqStep_br _ _ _ c119, if_neg k1, if_pos k2, if_neg k3] <;> rfl)]).trans hR
                        exact ih20 u36 (pqC (ga st 32) np (ilS ((false, b0, some jm) :: S8)) (a9 + 1)).1 (some (pqC (ga st 32) np (ilS ((false, b0, some jm) :: S8)) (a9 + 1)).1) ((false, b0, some jm) :: S8) (q9) al9 bg9 mi9 (upd mk9 (bs + a9) (nI 0)) (upd bo9 (bs + a9) (nI (pqC (ga st 32) np (ilS ((false, b0, some jm) :: S8)) (a9 + 1)).1)) ot9 n8 (by omega) (fun _ q9 => by cases q9; omega) (hS) hS5 ((by rw [if_neg (fun q9 => by cases q9)]; have := hn9; rw [if_pos rfl] at this; omega)) Eu36 hR (by rw [if_neg (fun q9 => by cases q9)]; rw [if_pos rfl] at hN; omega) H locs ls h (lv_sub hl [3, 4] rfl)
                    · by_cases k4 : nmB (msgF (ga st 32) np (a9 + 1)) (ilS ((false, b0, some jm) :: S8)) = true
                      · by_cases k5 : (pqF (ga st 32) np (a9 + 1)).2 = true
                        · rw [pqB, if_neg k1, if_neg k2, if_pos k4, pqE, if_pos k5] at Eu36
                          replace Eu36 : u36 = rqS st (nI ((pqF (ga st 32) np (a9 + 1)).1 + 1), oI none, nI (S8.length + 1), q9 + nI 1, al9, bg9, mi9, upd mk9 (bs + a9) (nI 0), bo9, ot9) := Eu36
                          refine lv_goto (tgt := 307) hx hb dX8_reads_127 (by decide) ?_
                          refine lv_goto (tgt := 20) hx hb dX8_reads_307 (by decide) ?_
                          obtain ⟨m1, m2⟩ := pqF_le (pg := (ga st 32)) (np := np) (a9 + 1)
                          replace m2 := m2 (msg_nm k4)
                          replace hR := (show pqRun (ga st 32) np bs n8 (((pqF (ga st 32) np (a9 + 1)).1 + 1), none, (false, b0, some jm) :: S8, q9 + nI 1, upd mk9 (bs + a9) (nI 0), bo9, ot9) = pqRun (ga st 32) np bs n8 (pqStep (ga st 32) np bs (a9, none, (false, b0, some jm) :: S8, q9, mk9, bo9, ot9)) by rw [show pqStep (ga st 32) np bs (a9, none, (false, b0, some jm) :: S8, q9, mk9, bo9, ot9) = (((pqF (ga st 32) np (a9 + 1)).1 + 1), none, (false, b0, some jm) :: S8, q9 + nI 1, upd mk9 (bs + a9) (nI 0), bo9, ot9) by (rw [pqStep_br _ _ _ c119, if_neg k1, if_neg k2, if_pos k4, if_pos k5] <;> rfl)]).trans hR
                          exact ih20 u36 ((pqF (ga st 32) np (a9 + 1)).1 + 1) (none) ((false, b0, some jm) :: S8) (q9 + nI 1) al9 bg9 mi9 (upd mk9 (bs + a9) (nI 0)) bo9 ot9 n8 (by omega) (fun _ q9 => by cases q9) (hS) hS5 ((by rw [if_pos rfl]; have := hn9; rw [if_pos rfl] at this; omega)) Eu36 hR (by rw [if_pos rfl]; rw [if_pos rfl] at hN; omega) H locs ls h (lv_sub hl [3, 4] rfl)
                        · rw [pqB, if_neg k1, if_neg k2, if_pos k4, pqE, if_neg k5] at Eu36
                          replace Eu36 : u36 = rqS st (nI ((pqF (ga st 32) np (a9 + 1)).1 + 1), oI (some (pqF (ga st 32) np (a9 + 1)).1), nI (S8.length + 1), q9 + nI 1, al9, bg9, mi9, upd mk9 (bs + a9) (nI 0), bo9, ot9) := Eu36
                          refine lv_goto (tgt := 307) hx hb dX8_reads_127 (by decide) ?_
                          refine lv_goto (tgt := 20) hx hb dX8_reads_307 (by decide) ?_
                          obtain ⟨m1, m2⟩ := pqF_le (pg := (ga st 32)) (np := np) (a9 + 1)
                          replace m2 := m2 (msg_nm k4)
                          replace hR := (show pqRun (ga st 32) np bs n8 (((pqF (ga st 32) np (a9 + 1)).1 + 1), some (pqF (ga st 32) np (a9 + 1)).1, (false, b0, some jm) :: S8, q9 + nI 1, upd mk9 (bs + a9) (nI 0), bo9, ot9) = pqRun (ga st 32) np bs n8 (pqStep (ga st 32) np bs (a9, none, (false, b0, some jm) :: S8, q9, mk9, bo9, ot9)) by rw [show pqStep (ga st 32) np bs (a9, none, (false, b0, some jm) :: S8, q9, mk9, bo9, ot9) = (((pqF (ga st 32) np (a9 + 1)).1 + 1), some (pqF (ga st 32) np (a9 + 1)).1, (false, b0, some jm) :: S8, q9 + nI 1, upd mk9 (bs + a9) (nI 0), bo9, ot9) by (rw [pqStep_br _ _ _ c119, if_neg k1, if_neg k2, if_pos k4, if_neg k5] <;> rfl)]).trans hR
                          exact ih20 u36 ((pqF (ga st 32) np (a9 + 1)).1 + 1) (some (pqF (ga st 32) np (a9 + 1)).1) ((false, b0, some jm) :: S8) (q9 + nI 1) al9 bg9 mi9 (upd mk9 (bs + a9) (nI 0)) bo9 ot9 n8 (by omega) (fun _ q9 => by cases q9; omega) (hS) hS5 ((by rw [if_neg (fun q9 => by cases q9)]; have := hn9; rw [if_pos rfl] at this; omega)) Eu36 hR (by rw [if_neg (fun q9 => by cases q9)]; rw [if_pos rfl] at hN; omega) H locs ls h (lv_sub hl [3, 4] rfl)
                      · rw [pqB, if_neg k1, if_neg k2, if_neg k4] at Eu36
                        replace Eu36 : u36 = rqS st (nI (a9 + 1), oI (some (a9 + 1)), nI (S8.length + 1), q9, al9, bg9, mi9, upd mk9 (bs + a9) (nI 0), bo9, ot9) := Eu36
                        refine lv_goto (tgt := 307) hx hb dX8_reads_127 (by decide) ?_
                        refine lv_goto (tgt := 20) hx hb dX8_reads_307 (by decide) ?_
                        replace hR := (show pqRun (ga st 32) np bs n8 ((a9 + 1), some (a9 + 1), (false, b0, some jm) :: S8, q9, upd mk9 (bs + a9) (nI 0), bo9, ot9) = pqRun (ga st 32) np bs n8 (pqStep (ga st 32) np bs (a9, none, (false, b0, some jm) :: S8, q9, mk9, bo9, ot9)) by rw [show pqStep (ga st 32) np bs (a9, none, (false, b0, some jm) :: S8, q9, mk9, bo9, ot9) = ((a9 + 1), some (a9 + 1), (false, b0, some jm) :: S8, q9, upd mk9 (bs + a9) (nI 0), bo9, ot9) by (rw [pqStep_br _ _ _ c119, if_neg k1, if_neg k2, if_neg k4] <;> rfl)]).trans hR
                        exact ih20 u36 (a9 + 1) (some (a9 + 1)) ((false, b0, some jm) :: S8) (q9) al9 bg9 mi9 (upd mk9 (bs + a9) (nI 0)) bo9 ot9 n8 (by omega) (fun _ q9 => by cases q9; omega) (hS) hS5 ((by rw [if_neg (fun q9 => by cases q9)]; have := hn9; rw [if_pos rfl] at this; omega)) Eu36 hR (by rw [if_neg (fun q9 => by cases q9)]; rw [if_pos rfl] at hN; omega) H locs ls h (lv_sub hl [3, 4] rfl)
            · replace hv9 : v9 = rqS st (nI a9, oI none, nI (S8.length + 1), q9, al9, bg9, mi9, mk9, bo9, ot9) := hv9
              refine lv_aload_n hx hb dX8_reads_39 rfl (lv_at hl 0 rfl) ?_
              refine gf_X8_7 C h (hM 30 (by decide)) rfl (k2 := 32) rfl dX8_reads_40 ?_
              refine lv_aload_n hx hb dX8_reads_43 rfl (lv_at hl 0 rfl) ?_
              refine gf_X8_134 C h (hM 30 (by decide)) rfl dX8_reads_44 ?_
              refine x_topi (y := nI a9) (by rw [hv9]; exact gi_rm9) ?_
              refine x_ald C h (hM 32 (by decide)) (n := 160) rfl a9 (by omega) (by decide) rfl dX8_reads_47 ?_
              refine x_topi (y := ga st 32 a9) (by rw [hv9, ga_rmo (by decide)]) ?_
              refine lv_istore_n (lv' := [(2, .int (ga st 32 a9)), (0, .ref (ad 30)), (1, .int (nI bs))]) hx hb dX8_reads_48 rfl hl (by decide) rfl (fun ls hl => ?_)
              refine lv_aload_n hx hb dX8_reads_49 rfl (lv_at hl 1 rfl) ?_
              refine gf_X8_127 C h (hM 30 (by decide)) rfl dX8_reads_50 ?_
              refine x_topi (y := nI (S8.length + 1)) (by rw [hv9]; exact gi_rm11) ?_
              refine x_ifN_le (tgt := 74) hx hb dX8_reads_53 (by decide) (by omega) (fun q9 => absurd q9 (by omega)) (fun _ => ?_)
              refine lv_aload_n hx hb dX8_reads_56 rfl (lv_at hl 1 rfl) ?_
              refine gf_X8_28 C h (hM 30 (by decide)) rfl (k2 := 43) rfl dX8_reads_57 ?_
              refine lv_aload_n hx hb dX8_reads_60 rfl (lv_at hl 1 rfl) ?_
              refine gf_X8_127 C h (hM 30 (by decide)) rfl dX8_reads_61 ?_
              refine x_topi (y := nI (S8.length + 1)) (by rw [hv9]; exact gi_rm11) ?_
              refine lv_iconst (v := nI 1) hx hb dX8_reads_64 (by decide) ?_
              refine lv_isub hx hb dX8_reads_65 ?_
              refine x_topi (y := nI S8.length) (pk_sub (by omega)) ?_
              refine x_zald C h (hM 43 (by decide)) rfl S8.length (by omega) rfl dX8_reads_66 ?_
              refine x_topi (y := al9 S8.length) (by rw [hv9, ga_rm43]) ?_
              refine x_topi (y := bi true) hS.1 ?_
              refine x_ifb_ne (tgt := 74) hx hb dX8_reads_67 (by decide) (fun _ => ?_) (fun z9 => by cases z9)
              refine lv_iconst (v := nI 0) hx hb dX8_reads_74 (by decide) ?_
              refine lv_istore_n (lv' := [(3, .int (nI 0)), (2, .int (ga st 32 a9)), (0, .ref (ad 30)), (1, .int (nI bs))]) hx hb dX8_reads_75 rfl hl (by decide) rfl (fun ls hl => ?_)
              refine lv_aload_n hx hb dX8_reads_76 rfl (lv_at hl 2 rfl) ?_
              refine gf_X8_127 C h (hM 30 (by decide)) rfl dX8_reads_77 ?_
              refine x_topi (y := nI (S8.length + 1)) (by rw [hv9]; exact gi_rm11) ?_
              refine x_ifN_le (tgt := 101) hx hb dX8_reads_80 (by decide) (by omega) (fun q9 => absurd q9 (by omega)) (fun _ => ?_)
              refine lv_aload_n hx hb dX8_reads_83 rfl (lv_at hl 2 rfl) ?_
              refine gf_X8_28 C h (hM 30 (by decide)) rfl (k2 := 43) rfl dX8_reads_84 ?_
              refine lv_aload_n hx hb dX8_reads_87 rfl (lv_at hl 2 rfl) ?_
              refine gf_X8_127 C h (hM 30 (by decide)) rfl dX8_reads_88 ?_
              refine x_topi (y := nI (S8.length + 1)) (by rw [hv9]; exact gi_rm11) ?_
              refine lv_iconst (v := nI 1) hx hb dX8_reads_91 (by decide) ?_
              refine lv_isub hx hb dX8_reads_92 ?_
              refine x_topi (y := nI S8.length) (pk_sub (by omega)) ?_
              refine x_zald C h (hM 43 (by decide)) rfl S8.length (by omega) rfl dX8_reads_93 ?_
              refine x_topi (y := al9 S8.length) (by rw [hv9, ga_rm43]) ?_
              refine x_topi (y := bi true) hS.1 ?_
              refine x_ifb_eq (tgt := 101) hx hb dX8_reads_94 (by decide) (fun z9 => by cases z9) (fun _ => ?_)
              refine lv_iconst (v := nI 1) hx hb dX8_reads_97 (by decide) ?_
              refine lv_goto (tgt := 102) hx hb dX8_reads_98 (by decide) ?_
              refine lv_istore (lv' := [(4, .int (nI 1)), (3, .int (nI 0)), (2, .int (ga st 32 a9)), (0, .ref (ad 30)), (1, .int (nI bs))]) hx hb dX8_reads_102 hl (by decide) rfl (fun ls hl => ?_)
              refine lv_aload_n hx hb dX8_reads_104 rfl (lv_at hl 3 rfl) ?_
              refine gf_X8_19 C h (hM 30 (by decide)) rfl (k2 := 36) rfl dX8_reads_105 ?_
              refine lv_iload_n hx hb dX8_reads_108 rfl (lv_at hl 4 rfl) ?_
              refine lv_aload_n hx hb dX8_reads_109 rfl (lv_at hl 3 rfl) ?_
              refine gf_X8_134 C h (hM 30 (by decide)) rfl dX8_reads_110 ?_
              refine x_topi (y := nI a9) (by rw [hv9]; exact gi_rm9) ?_
              refine x_addN hx hb dX8_reads_113 ?_
              refine lv_iconst (v := nI 0) hx hb dX8_reads_114 (by decide) ?_
              refine x_ast C h (hM 36 (by decide)) (n := 1120) rfl (bs + a9) (by omega) (by decide) rfl dX8_reads_115 (fun H locs u38 eu38 h => ?_)
              rw [hv9, ga_rm36, rm_36] at eu38
              refine lv_iload_n hx hb dX8_reads_116 rfl (lv_at hl 2 rfl) ?_
              refine lv_bipush (v := nI 123) hx hb dX8_reads_117 (by decide) ?_
              refine lv_icmp_ne (tgt := 130) hx hb dX8_reads_119 (by decide) (fun c119 => ?_) (fun c119 => ?_)
              · refine lv_iload_n hx hb dX8_reads_130 rfl (lv_at hl 2 rfl) ?_
                refine lv_bipush (v := nI 125) hx hb dX8_reads_131 (by decide) ?_
                refine lv_icmp_ne (tgt := 148) hx hb dX8_reads_133 (by decide) (fun c133 => ?_) (fun c133 => ?_)
                · refine lv_iload_n hx hb dX8_reads_148 rfl (lv_at hl 2 rfl) ?_
                  refine lv_bipush (v := nI 124) hx hb dX8_reads_149 (by decide) ?_
                  refine lv_icmp_ne (tgt := 213) hx hb dX8_reads_151 (by decide) (fun c151 => ?_) (fun c151 => ?_)
                  · refine lv_iload_n hx hb dX8_reads_213 rfl (lv_at hl 2 rfl) ?_
                    refine lv_bipush (v := nI 125) hx hb dX8_reads_214 (by decide) ?_
                    refine lv_icmp_eq (tgt := 225) hx hb dX8_reads_216 (by decide) (fun q9 => absurd q9 c133) (fun _ => ?_)
                    refine lv_iload_n hx hb dX8_reads_219 rfl (lv_at hl 2 rfl) ?_
                    refine lv_bipush (v := nI 124) hx hb dX8_reads_220 (by decide) ?_
                    refine lv_icmp_ne (tgt := 236) hx hb dX8_reads_222 (by decide) (fun _ => ?_) (fun q9 => absurd q9 c151)
                    refine lv_iload_n hx hb dX8_reads_236 rfl (lv_at hl 2 rfl) ?_
                    refine lv_bipush (v := nI 42) hx hb dX8_reads_237 (by decide) ?_
                    refine lv_icmp_ne (tgt := 297) hx hb dX8_reads_239 (by decide) (fun c239 => ?_) (fun c239 => ?_)
                    · refine lv_aload_n hx hb dX8_reads_297 rfl (lv_at hl 3 rfl) ?_
                      refine lv_dup hx hb dX8_reads_298 rfl ?_
                      refine gf_X8_134 C h (hM 30 (by decide)) rfl dX8_reads_299 ?_
                      refine x_topi (y := nI a9) (by rw [eu38]; exact gi_rm9) ?_
                      refine lv_iconst (v := nI 1) hx hb dX8_reads_302 (by decide) ?_
                      refine x_addN hx hb dX8_reads_303 ?_
                      refine pf_X8_134 C h (hM 30 (by decide)) rfl dX8_reads_304 (fun H locs u39 eu39 h => ?_)
                      rw [eu38, rm_9] at eu39
                      refine lv_goto (tgt := 20) hx hb dX8_reads_307 (by decide) ?_
                      replace hR := (show pqRun (ga st 32) np bs n8 ((a9 + 1), none, (true, b0, mo) :: S8, q9, upd mk9 (bs + a9) (nI 0), bo9, ot9) = pqRun (ga st 32) np bs n8 (pqStep (ga st 32) np bs (a9, none, (true, b0, mo) :: S8, q9, mk9, bo9, ot9)) by rw [show pqStep (ga st 32) np bs (a9, none, (true, b0, mo) :: S8, q9, mk9, bo9, ot9) = ((a9 + 1), none, (true, b0, mo) :: S8, q9, upd mk9 (bs + a9) (nI 0), bo9, ot9) by (rw [pqStep_t _ _ _ c119, if_neg (fun q9 => q9.elim (fun q9 => absurd q9 c133) (fun q9 => absurd q9 c151)), if_neg (fun q9 => c239 q9.1)] <;> rfl)]).trans hR
                      exact ih20 u39 (a9 + 1) (none) ((true, b0, mo) :: S8) (q9) al9 bg9 mi9 (upd mk9 (bs + a9) (nI 0)) bo9 ot9 n8 (by omega) (fun _ q9 => by cases q9) (hS) hS5 ((by rw [if_pos rfl]; have := hn9; rw [if_pos rfl] at this; omega)) eu39 hR (by rw [if_pos rfl]; rw [if_pos rfl] at hN; omega) H locs ls h (lv_sub hl [3, 4] rfl)
                    · refine lv_iload hx hb dX8_reads_242 (lv_at hl 0 rfl) ?_
                      refine x_ifN_eq (tgt := 297) hx hb dX8_reads_244 (by decide) (by decide) (fun z9 => absurd z9 (by decide)) (fun _ => ?_)
                      refine lv_aload_n hx hb dX8_reads_247 rfl (lv_at hl 3 rfl) ?_
                      refine lv_aload_n hx hb dX8_reads_248 rfl (lv_at hl 3 rfl) ?_
                      refine gf_X8_134 C h (hM 30 (by decide)) rfl dX8_reads_249 ?_
                      refine x_topi (y := nI a9) (by rw [eu38]; exact gi_rm9) ?_
                      refine lv_iconst (v := nI 1) hx hb dX8_reads_252 (by decide) ?_
                      refine x_addN hx hb dX8_reads_253 ?_
                      refine cl_X8_137 C h (hM 30 (by decide)) rfl (c_X8_sign l D cy ad Ls u38 hM np (a9 + 1) hnp160 (by omega) (by rw [eu38, gi_rmo (by decide)]; exact hnp)) (x_room (by omega)) ⟨Nat.zero_le _, Nat.zero_le _⟩ hl.1 (Nat.le_of_ble_eq_true rfl) dX8_reads_254 (fun r41 u40 H locs hp h => ?_)
                      obtain ⟨er41, eu40⟩ := hp; rw [eu40] at h; clear eu40 u40; refine x_topi er41 ?_; clear er41 r41
                      refine x_topi (y := msgF (ga st 32) np (a9 + 1)) (by rw [eu38, ga_rmo (by decide)]) ?_
                      refine lv_bipush (v := nI 125) hx hb dX8_reads_257 (by decide) ?_
                      refine lv_icmp_ne (tgt := 297) hx hb dX8_reads_259 (by decide) (fun c259 => ?_) (fun c259 => ?_)
                      · refine lv_aload_n hx hb dX8_reads_297 rfl (lv_at hl 3 rfl) ?_
                        refine lv_dup hx hb dX8_reads_298 rfl ?_
                        refine gf_X8_134 C h (hM 30 (by decide)) rfl dX8_reads_299 ?_
                        refine x_topi (y := nI a9) (by rw [eu38]; exact gi_rm9) ?_
                        refine lv_iconst (v := nI 1) hx hb dX8_reads_302 (by decide) ?_
                        refine x_addN hx hb dX8_reads_303 ?_
                        refine pf_X8_134 C h (hM 30 (by decide)) rfl dX8_reads_304 (fun H locs u42 eu42 h => ?_)
                        rw [eu38, rm_9] at eu42
                        refine lv_goto (tgt := 20) hx hb dX8_reads_307 (by decide) ?_
                        replace hR := (show pqRun (ga st 32) np bs n8 ((a9 + 1), none, (true, b0, mo) :: S8, q9, upd mk9 (bs + a9) (nI 0), bo9, ot9) = pqRun (ga st 32) np bs n8 (pqStep (ga st 32) np bs (a9, none, (true, b0, mo) :: S8, q9, mk9, bo9, ot9)) by rw [show pqStep (ga st 32) np bs (a9, none, (true, b0, mo) :: S8, q9, mk9, bo9, ot9) = ((a9 + 1), none, (true, b0, mo) :: S8, q9, upd mk9 (bs + a9) (nI 0), bo9, ot9) by (rw [pqStep_t _ _ _ (fun q9 => absurd (c239.symm.trans q9) (by decide)), if_neg (fun q9 => q9.elim (fun q9 => absurd q9 (fun q8 => absurd (c239.symm.trans q8) (by decide))) (fun q9 => absurd q9 (fun q8 => absurd (c239.symm.trans q8) (by decide)))), if_neg (fun q9 => c259 q9.2)] <;> rfl)]).trans hR
                        exact ih20 u42 (a9 + 1) (none) ((true, b0, mo) :: S8) (q9) al9 bg9 mi9 (upd mk9 (bs + a9) (nI 0)) bo9 ot9 n8 (by omega) (fun _ q9 => by cases q9) (hS) hS5 ((by rw [if_pos rfl]; have := hn9; rw [if_pos rfl] at this; omega)) eu42 hR (by rw [if_pos rfl]; rw [if_pos rfl] at hN; omega) H locs ls h (lv_sub hl [3, 4] rfl)
                      · refine lv_aload_n hx hb dX8_reads_262 rfl (lv_at hl 3 rfl) ?_
                        refine gf_X8_19 C h (hM 30 (by decide)) rfl (k2 := 36) rfl dX8_reads_263 ?_
                        refine lv_iload_n hx hb dX8_reads_266 rfl (lv_at hl 4 rfl) ?_
                        refine lv_aload_n hx hb dX8_reads_267 rfl (lv_at hl 3 rfl) ?_
                        refine gf_X8_134 C h (hM 30 (by decide)) rfl dX8_reads_268 ?_
                        refine x_topi (y := nI a9) (by rw [eu38]; exact gi_rm9) ?_
                        refine x_addN hx hb dX8_reads_271 ?_
                        refine lv_iconst (v := nI 1) hx hb dX8_reads_272 (by decide) ?_
                        refine x_ast C h (hM 36 (by decide)) (n := 1120) rfl (bs + a9) (by omega) (by decide) rfl dX8_reads_273 (fun H locs u43 eu43 h => ?_)
                        rw [eu38, ga_rm36, rm_36] at eu43
                        refine lv_aload_n hx hb dX8_reads_274 rfl (lv_at hl 3 rfl) ?_
                        refine lv_dup hx hb dX8_reads_275 rfl ?_
                        refine gf_X8_127 C h (hM 30 (by decide)) rfl dX8_reads_276 ?_
                        refine x_topi (y := nI (S8.length + 1)) (by rw [eu43]; exact gi_rm11) ?_
                        refine lv_iconst (v := nI 1) hx hb dX8_reads_279 (by decide) ?_
                        refine lv_isub hx hb dX8_reads_280 ?_
                        refine x_topi (y := nI S8.length) (pk_sub (by omega)) ?_
                        refine pf_X8_127 C h (hM 30 (by decide)) rfl dX8_reads_281 (fun H locs u44 eu44 h => ?_)
                        rw [eu43, rm_11] at eu44
                        refine lv_aload_n hx hb dX8_reads_284 rfl (lv_at hl 3 rfl) ?_
                        refine lv_dup hx hb dX8_reads_285 rfl ?_
                        refine gf_X8_134 C h (hM 30 (by decide)) rfl dX8_reads_286 ?_
                        refine x_topi (y := nI a9) (by rw [eu44]; exact gi_rm9) ?_
                        refine lv_iconst (v := nI 2) hx hb dX8_reads_289 (by decide) ?_
                        refine x_addN hx hb dX8_reads_290 ?_
                        refine pf_X8_134 C h (hM 30 (by decide)) rfl dX8_reads_291 (fun H locs u45 eu45 h => ?_)
                        rw [eu44, rm_9] at eu45
                        refine lv_goto (tgt := 307) hx hb dX8_reads_294 (by decide) ?_
                        refine lv_goto (tgt := 20) hx hb dX8_reads_307 (by decide) ?_
                        replace hR := (show pqRun (ga st 32) np bs n8 ((a9 + 2), none, S8, q9, upd (upd mk9 (bs + a9) (nI 0)) (bs + a9) (nI 1), bo9, ot9) = pqRun (ga st 32) np bs n8 (pqStep (ga st 32) np bs (a9, none, (true, b0, mo) :: S8, q9, mk9, bo9, ot9)) by rw [show pqStep (ga st 32) np bs (a9, none, (true, b0, mo) :: S8, q9, mk9, bo9, ot9) = ((a9 + 2), none, S8, q9, upd (upd mk9 (bs + a9) (nI 0)) (bs + a9) (nI 1), bo9, ot9) by (rw [pqStep_t _ _ _ (fun q9 => absurd (c239.symm.trans q9) (by decide)), if_neg (fun q9 => q9.elim (fun q9 => absurd q9 (fun q8 => absurd (c239.symm.trans q8) (by decide))) (fun q9 => absurd q9 (fun q8 => absurd (c239.symm.trans q8) (by decide)))), if_pos ⟨c239, c259⟩] <;> rfl)]).trans hR
                        exact ih20 u45 (a9 + 2) (none) (S8) (q9) al9 bg9 mi9 (upd (upd mk9 (bs + a9) (nI 0)) (bs + a9) (nI 1)) bo9 ot9 n8 (by omega) (fun _ q9 => by cases q9) (hS.2.2.2.2.2) (by omega) ((by rw [if_pos rfl]; have := hn9; rw [if_pos rfl] at this; omega)) eu45 hR (by rw [if_pos rfl]; rw [if_pos rfl] at hN; omega) H locs ls h (lv_sub hl [3, 4] rfl)
                  · refine lv_iload_n hx hb dX8_reads_154 rfl (lv_at hl 1 rfl) ?_
                    refine x_ifN_eq (tgt := 213) hx hb dX8_reads_155 (by decide) (by decide) (fun _ => ?_) (fun z9 => absurd z9 (by decide))
                    refine lv_iload_n hx hb dX8_reads_213 rfl (lv_at hl 2 rfl) ?_
                    refine lv_bipush (v := nI 125) hx hb dX8_reads_214 (by decide) ?_
                    refine lv_icmp_eq (tgt := 225) hx hb dX8_reads_216 (by decide) (fun q9 => absurd (c151.symm.trans q9) (by decide)) (fun _ => ?_)
                    refine lv_iload_n hx hb dX8_reads_219 rfl (lv_at hl 2 rfl) ?_
                    refine lv_bipush (v := nI 124) hx hb dX8_reads_220 (by decide) ?_
                    refine lv_icmp_ne (tgt := 236) hx hb dX8_reads_222 (by decide) (fun q9 => absurd c151 q9) (fun _ => ?_)
                    refine lv_aload_n hx hb dX8_reads_225 rfl (lv_at hl 3 rfl) ?_
                    refine lv_aload_n hx hb dX8_reads_226 rfl (lv_at hl 3 rfl) ?_
                    refine gf_X8_134 C h (hM 30 (by decide)) rfl dX8_reads_227 ?_
                    refine x_topi (y := nI a9) (by rw [eu38]; exact gi_rm9) ?_
                    refine pf_X8_148 C h (hM 30 (by decide)) rfl dX8_reads_230 (fun H locs u46 eu46 h => ?_)
                    rw [eu38, rm_10] at eu46
                    refine lv_goto (tgt := 307) hx hb dX8_reads_233 (by decide) ?_
                    refine lv_goto (tgt := 20) hx hb dX8_reads_307 (by decide) ?_
                    replace hR := (show pqRun (ga st 32) np bs n8 (a9, some a9, (true, b0, mo) :: S8, q9, upd mk9 (bs + a9) (nI 0), bo9, ot9) = pqRun (ga st 32) np bs n8 (pqStep (ga st 32) np bs (a9, none, (true, b0, mo) :: S8, q9, mk9, bo9, ot9)) by rw [show pqStep (ga st 32) np bs (a9, none, (true, b0, mo) :: S8, q9, mk9, bo9, ot9) = (a9, some a9, (true, b0, mo) :: S8, q9, upd mk9 (bs + a9) (nI 0), bo9, ot9) by (rw [pqStep_t _ _ _ (fun q9 => absurd (c151.symm.trans q9) (by decide)), if_pos (Or.inr c151)] <;> rfl)]).trans hR
                    exact ih20 u46 a9 (some a9) ((true, b0, mo) :: S8) (q9) al9 bg9 mi9 (upd mk9 (bs + a9) (nI 0)) bo9 ot9 n8 (by omega) (fun _ q9 => by cases q9; omega) (hS) hS5 ((by rw [if_neg (fun q9 => by cases q9)]; have := hn9; rw [if_pos rfl] at this; omega)) eu46 hR (by rw [if_neg (fun q9 => by cases q9)]; rw [if_pos rfl] at hN; omega) H locs ls h (lv_sub hl [3, 4] rfl)
                · refine lv_iload_n hx hb dX8_reads_136 rfl (lv_at hl 1 rfl) ?_
                  refine x_ifN_eq (tgt := 148) hx hb dX8_reads_137 (by decide) (by decide) (fun _ => ?_) (fun z9 => absurd z9 (by decide))
                  refine lv_iload_n hx hb dX8_reads_148 rfl (lv_at hl 2 rfl) ?_
                  refine lv_bipush (v := nI 124) hx hb dX8_reads_149 (by decide) ?_
                  refine lv_icmp_ne (tgt := 213) hx hb dX8_reads_151 (by decide) (fun _ => ?_) (fun q9 => absurd (c133.symm.trans q9) (by decide))
                  refine lv_iload_n hx hb dX8_reads_213 rfl (lv_at hl 2 rfl) ?_
                  refine lv_bipush (v := nI 125) hx hb dX8_reads_214 (by decide) ?_
                  refine lv_icmp_eq (tgt := 225) hx hb dX8_reads_216 (by decide) (fun _ => ?_) (fun q9 => absurd c133 q9)
                  refine lv_aload_n hx hb dX8_reads_225 rfl (lv_at hl 3 rfl) ?_
                  refine lv_aload_n hx hb dX8_reads_226 rfl (lv_at hl 3 rfl) ?_
                  refine gf_X8_134 C h (hM 30 (by decide)) rfl dX8_reads_227 ?_
                  refine x_topi (y := nI a9) (by rw [eu38]; exact gi_rm9) ?_
                  refine pf_X8_148 C h (hM 30 (by decide)) rfl dX8_reads_230 (fun H locs u47 eu47 h => ?_)
                  rw [eu38, rm_10] at eu47
                  refine lv_goto (tgt := 307) hx hb dX8_reads_233 (by decide) ?_
                  refine lv_goto (tgt := 20) hx hb dX8_reads_307 (by decide) ?_
                  replace hR := (show pqRun (ga st 32) np bs n8 (a9, some a9, (true, b0, mo) :: S8, q9, upd mk9 (bs + a9) (nI 0), bo9, ot9) = pqRun (ga st 32) np bs n8 (pqStep (ga st 32) np bs (a9, none, (true, b0, mo) :: S8, q9, mk9, bo9, ot9)) by rw [show pqStep (ga st 32) np bs (a9, none, (true, b0, mo) :: S8, q9, mk9, bo9, ot9) = (a9, some a9, (true, b0, mo) :: S8, q9, upd mk9 (bs + a9) (nI 0), bo9, ot9) by (rw [pqStep_t _ _ _ (fun q9 => absurd (c133.symm.trans q9) (by decide)), if_pos (Or.inl c133)] <;> rfl)]).trans hR
                  exact ih20 u47 a9 (some a9) ((true, b0, mo) :: S8) (q9) al9 bg9 mi9 (upd mk9 (bs + a9) (nI 0)) bo9 ot9 n8 (by omega) (fun _ q9 => by cases q9; omega) (hS) hS5 ((by rw [if_neg (fun q9 => by cases q9)]; have := hn9; rw [if_pos rfl] at this; omega)) eu47 hR (by rw [if_neg (fun q9 => by cases q9)]; rw [if_pos rfl] at hN; omega) H locs ls h (lv_sub hl [3, 4] rfl)
              · refine lv_aload_n hx hb dX8_reads_122 rfl (lv_at hl 3 rfl) ?_
                refine lv_iload_n hx hb dX8_reads_123 rfl (lv_at hl 4 rfl) ?_
                rw [eu38] at h
                refine cl_X8_175 C h (hM 30 (by decide)) rfl (c_X8_brace l D cy ad Ls st hM np hnp160 hnp a9 (by omega) bs (by omega) (S8.length + 1) q9 al9 bg9 mi9 (upd mk9 (bs + a9) (nI 0)) bo9 ot9 (by omega) (lpS ((true, b0, mo) :: S8)) (stOK_lp hS)) (x_room (by omega)) ⟨Nat.zero_le _, Nat.zero_le _⟩ hl.1 (Nat.le_of_ble_eq_true rfl) dX8_reads_124 (fun u48 H locs hp h => ?_)
                have Eu48 : u48 = rqS st (pqB (ga st 32) np (ilS ((true, b0, mo) :: S8)) ((true, b0, mo) :: S8).length bs a9 q9 al9 bg9 mi9 (upd mk9 (bs + a9) (nI 0)) bo9 ot9) := hp; clear hp
                by_cases k1 : msgF (ga st 32) np (a9 + 1) = nI 42 ∧ ((true, b0, mo) :: S8).length < 5 ∧ (ilS ((true, b0, mo) :: S8)) = false
                · rw [pqB, if_pos k1] at Eu48
                  replace Eu48 : u48 = rqS st (nI (a9 + 1 + 1), oI none, nI (((true, b0, mo) :: S8).length + 1), q9 + nI 1, upd al9 ((true, b0, mo) :: S8).length (bi true), upd bg9 ((true, b0, mo) :: S8).length (nI a9), upd mi9 ((true, b0, mo) :: S8).length (-1), upd mk9 (bs + a9) (nI 0), upd bo9 (bs + a9) (nI (a9 + 1 + 1)), ot9) := Eu48
                  refine lv_goto (tgt := 307) hx hb dX8_reads_127 (by decide) ?_
                  refine lv_goto (tgt := 20) hx hb dX8_reads_307 (by decide) ?_
                  replace hR := (show pqRun (ga st 32) np bs n8 ((a9 + 1 + 1), none, (true, a9, none) :: ((true, b0, mo) :: S8), q9 + nI 1, upd mk9 (bs + a9) (nI 0), upd bo9 (bs + a9) (nI (a9 + 1 + 1)), ot9) = pqRun (ga st 32) np bs n8 (pqStep (ga st 32) np bs (a9, none, (true, b0, mo) :: S8, q9, mk9, bo9, ot9)) by rw [show pqStep (ga st 32) np bs (a9, none, (true, b0, mo) :: S8, q9, mk9, bo9, ot9) = ((a9 + 1 + 1), none, (true, a9, none) :: ((true, b0, mo) :: S8), q9 + nI 1, upd mk9 (bs + a9) (nI 0), upd bo9 (bs + a9) (nI (a9 + 1 + 1)), ot9) by (rw [pqStep_br _ _ _ c119, if_pos k1] <;> rfl)]).trans hR
                  exact ih20 u48 (a9 + 1 + 1) (none) ((true, a9, none) :: ((true, b0, mo) :: S8)) (q9 + nI 1) (upd al9 ((true, b0, mo) :: S8).length (bi true)) (upd bg9 ((true, b0, mo) :: S8).length (nI a9)) (upd mi9 ((true, b0, mo) :: S8).length (-1)) (upd mk9 (bs + a9) (nI 0)) (upd bo9 (bs + a9) (nI (a9 + 1 + 1))) ot9 n8 (by omega) (fun _ q9 => by cases q9) ((stOK_push hS true (by omega))) (by show _ + 1 ≤ 5; have := k1.2.1; omega) ((by rw [if_pos rfl]; have := hn9; rw [if_pos rfl] at this; omega)) Eu48 hR (by rw [if_pos rfl]; rw [if_pos rfl] at hN; omega) H locs ls h (lv_sub hl [3, 4] rfl)
                · by_cases k2 : msgF (ga st 32) np (a9 + 1) = nI 63 ∧ ((true, b0, mo) :: S8).length < 5
                  · by_cases k3 : (pqC (ga st 32) np (ilS ((true, b0, mo) :: S8)) (a9 + 1)).2 = true
                    · rw [pqB, if_neg k1, if_pos k2, if_pos k3] at Eu48
                      replace Eu48 : u48 = rqS st (nI (pqC (ga st 32) np (ilS ((true, b0, mo) :: S8)) (a9 + 1)).1, oI none, nI (((true, b0, mo) :: S8).length + 1), q9 + nI 1, upd al9 ((true, b0, mo) :: S8).length (bi false), upd bg9 ((true, b0, mo) :: S8).length (nI a9), upd mi9 ((true, b0, mo) :: S8).length (-1), upd mk9 (bs + a9) (nI 0), upd bo9 (bs + a9) (nI (pqC (ga st 32) np (ilS ((true, b0, mo) :: S8)) (a9 + 1)).1), ot9) := Eu48
                      refine lv_goto (tgt := 307) hx hb dX8_reads_127 (by decide) ?_
                      refine lv_goto (tgt := 20) hx hb dX8_reads_307 (by decide) ?_
                      obtain ⟨m1, m2⟩ := pqC_le (pg := (ga st 32)) (np := np) (il := (ilS ((true, b0, mo) :: S8))) (a9 + 1)
                      replace m2 := m2 (msg_lt k2.1 (by decide))
                      replace hR := (show pqRun (ga st 32) np bs n8 ((pqC (ga st 32) np (ilS ((true, b0, mo) :: S8)) (a9 + 1)).1, none, (false, a9, none) :: ((true, b0, mo) :: S8), q9 + nI 1, upd mk9 (bs + a9) (nI 0), upd bo9 (bs + a9) (nI (pqC (ga st 32) np (ilS ((true, b0, mo) :: S8)) (a9 + 1)).1), ot9) = pqRun (ga st 32) np bs n8 (pqStep (ga st 32) np bs (a9, none, (true, b0, mo) :: S8, q9, mk9, bo9, ot9)) by rw [show pqStep (ga st 32) np bs (a9, none, (true, b0, mo) :: S8, q9, mk9, bo9, ot9) = ((pqC (ga st 32) np (ilS ((true, b0, mo) :: S8)) (a9 + 1)).1, none, (false, a9, none) :: ((true, b0, mo) :: S8), q9 + nI 1, upd mk9 (bs + a9) (nI 0), upd bo9 (bs + a9) (nI (pqC (ga st 32) np (ilS ((true, b0, mo) :: S8)) (a9 + 1)).1), ot9) by (rw [pqStep_br _ _ _ c119, if_neg k1, if_pos k2, if_pos k3] <;> rfl)]).trans hR
                      exact ih20 u48 (pqC (ga st 32) np (ilS ((true, b0, mo) :: S8)) (a9 + 1)).1 (none) ((false, a9, none) :: ((true, b0, mo) :: S8)) (q9 + nI 1) (upd al9 ((true, b0, mo) :: S8).length (bi false)) (upd bg9 ((true, b0, mo) :: S8).length (nI a9)) (upd mi9 ((true, b0, mo) :: S8).length (-1)) (upd mk9 (bs + a9) (nI 0)) (upd bo9 (bs + a9) (nI (pqC (ga st 32) np (ilS ((true, b0, mo) :: S8)) (a9 + 1)).1)) ot9 n8 (by omega) (fun _ q9 => by cases q9) ((stOK_push hS false (by omega))) (by show _ + 1 ≤ 5; have := k2.2; omega) ((by rw [if_pos rfl]; have := hn9; rw [if_pos rfl] at this; omega)) Eu48 hR (by rw [if_pos rfl]; rw [if_pos rfl] at hN; omega) H locs ls h (lv_sub hl [3, 4] rfl)
                    · rw [pqB, if_neg k1, if_pos k2, if_neg k3] at Eu48
                      replace Eu48 : u48 = rqS st (nI (pqC (ga st 32) np (ilS ((true, b0, mo) :: S8)) (a9 + 1)).1, oI (some (pqC (ga st 32) np (ilS ((true, b0, mo) :: S8)) (a9 + 1)).1), nI (S8.length + 1), q9, al9, bg9, mi9, upd mk9 (bs + a9) (nI 0), upd bo9 (bs + a9) (nI (pqC (ga st 32) np (ilS ((true, b0, mo) :: S8)) (a9 + 1)).1), ot9) := Eu48
                      refine lv_goto (tgt := 307) hx hb dX8_reads_127 (by decide) ?_
                      refine lv_goto (tgt := 20) hx hb dX8_reads_307 (by decide) ?_
                      obtain ⟨m1, m2⟩ := pqC_le (pg := (ga st 32)) (np := np) (il := (ilS ((true, b0, mo) :: S8))) (a9 + 1)
                      replace m2 := m2 (msg_lt k2.1 (by decide))
                      replace hR := (show pqRun (ga st 32) np bs n8 ((pqC (ga st 32) np (ilS ((true, b0, mo) :: S8)) (a9 + 1)).1, some (pqC (ga st 32) np (ilS ((true, b0, mo) :: S8)) (a9 + 1)).1, (true, b0, mo) :: S8, q9, upd mk9 (bs + a9) (nI 0), upd bo9 (bs + a9) (nI (pqC (ga st 32) np (ilS ((true, b0, mo) :: S8)) (a9 + 1)).1), ot9) = pqRun (ga st 32) np bs n8 (pqStep (ga st 32) np bs (a9, none, (true, b0, mo) :: S8, q9, mk9, bo9, ot9)) by rw [show pqStep (ga st 32) np bs (a9, none, (true, b0, mo) :: S8, q9, mk9, bo9, ot9) = ((pqC (ga st 32) np (ilS ((true, b0, mo) :: S8)) (a9 + 1)).1, some (pqC (ga st 32) np (ilS ((true, b0, mo) :: S8)) (a9 + 1)).1, (true, b0, mo) :: S8, q9, upd mk9 (bs + a9) (nI 0), upd bo9 (bs + a9) (nI (pqC (ga st 32) np (ilS ((true, b0, mo) :: S8)) (a9 + 1)).1), ot9) by (rw [pqStep_br _ _ _ c119, if_neg k1, if_pos k2, if_neg k3] <;> rfl)]).trans hR
                      exact ih20 u48 (pqC (ga st 32) np (ilS ((true, b0, mo) :: S8)) (a9 + 1)).1 (some (pqC (ga st 32) np (ilS ((true, b0, mo) :: S8)) (a9 + 1)).1) ((true, b0, mo) :: S8) (q9) al9 bg9 mi9 (upd mk9 (bs + a9) (nI 0)) (upd bo9 (bs + a9) (nI (pqC (ga st 32) np (ilS ((true, b0, mo) :: S8)) (a9 + 1)).1)) ot9 n8 (by omega) (fun _ q9 => by cases q9; omega) (hS) hS5 ((by rw [if_neg (fun q9 => by cases q9)]; have := hn9; rw [if_pos rfl] at this; omega)) Eu48 hR (by rw [if_neg (fun q9 => by cases q9)]; rw [if_pos rfl] at hN; omega) H locs ls h (lv_sub hl [3, 4] rfl)
                  · by_cases k4 : nmB (msgF (ga st 32) np (a9 + 1)) (ilS ((true, b0, mo) :: S8)) = true
                    · by_cases k5 : (pqF (ga st 32) np (a9 + 1)).2 = true
                      · rw [pqB, if_neg k1, if_neg k2, if_pos k4, pqE, if_pos k5] at Eu48
                        replace Eu48 : u48 = rqS st (nI ((pqF (ga st 32) np (a9 + 1)).1 + 1), oI none, nI (S8.length + 1), q9 + nI 1, al9, bg9, mi9, upd mk9 (bs + a9) (nI 0), bo9, ot9) := Eu48
                        refine lv_goto (tgt := 307) hx hb dX8_reads_127 (by decide) ?_
                        refine lv_goto (tgt := 20) hx hb dX8_reads_307 (by decide) ?_
                        obtain ⟨m1, m2⟩ := pqF_le (pg := (ga st 32)) (np := np) (a9 + 1)
                        replace m2 := m2 (msg_nm k4)
                        replace hR := (show pqRun (ga st 32) np bs n8 (((pqF (ga st 32) np (a9 + 1)).1 + 1), none, (true, b0, mo) :: S8, q9 + nI 1, upd mk9 (bs + a9) (nI 0), bo9, ot9) = pqRun (ga st 32) np bs n8 (pqStep (ga st 32) np bs (a9, none, (true, b0, mo) :: S8, q9, mk9, bo9, ot9)) by rw [show pqStep (ga st 32) np bs (a9, none, (true, b0, mo) :: S8, q9, mk9, bo9, ot9) = (((pqF (ga st 32) np (a9 + 1)).1 + 1), none, (true, b0, mo) :: S8, q9 + nI 1, upd mk9 (bs + a9) (nI 0), bo9, ot9) by (rw [pqStep_br _ _ _ c119, if_neg k1, if_neg k2, if_pos k4, if_pos k5] <;> rfl)]).trans hR
                        exact ih20 u48 ((pqF (ga st 32) np (a9 + 1)).1 + 1) (none) ((true, b0, mo) :: S8) (q9 + nI 1) al9 bg9 mi9 (upd mk9 (bs + a9) (nI 0)) bo9 ot9 n8 (by omega) (fun _ q9 => by cases q9) (hS) hS5 ((by rw [if_pos rfl]; have := hn9; rw [if_pos rfl] at this; omega)) Eu48 hR (by rw [if_pos rfl]; rw [if_pos rfl] at hN; omega) H locs ls h (lv_sub hl [3, 4] rfl)
                      · rw [pqB, if_neg k1, if_neg k2, if_pos k4, pqE, if_neg k5] at Eu48
                        replace Eu48 : u48 = rqS st (nI ((pqF (ga st 32) np (a9 + 1)).1 + 1), oI (some (pqF (ga st 32) np (a9 + 1)).1), nI (S8.length + 1), q9 + nI 1, al9, bg9, mi9, upd mk9 (bs + a9) (nI 0), bo9, ot9) := Eu48
                        refine lv_goto (tgt := 307) hx hb dX8_reads_127 (by decide) ?_
                        refine lv_goto (tgt := 20) hx hb dX8_reads_307 (by decide) ?_
                        obtain ⟨m1, m2⟩ := pqF_le (pg := (ga st 32)) (np := np) (a9 + 1)
                        replace m2 := m2 (msg_nm k4)
                        replace hR := (show pqRun (ga st 32) np bs n8 (((pqF (ga st 32) np (a9 + 1)).1 + 1), some (pqF (ga st 32) np (a9 + 1)).1, (true, b0, mo) :: S8, q9 + nI 1, upd mk9 (bs + a9) (nI 0), bo9, ot9) = pqRun (ga st 32) np bs n8 (pqStep (ga st 32) np bs (a9, none, (true, b0, mo) :: S8, q9, mk9, bo9, ot9)) by rw [show pqStep (ga st 32) np bs (a9, none, (true, b0, mo) :: S8, q9, mk9, bo9, ot9) = (((pqF (ga st 32) np (a9 + 1)).1 + 1), some (pqF (ga st 32) np (a9 + 1)).1, (true, b0, mo) :: S8, q9 + nI 1, upd mk9 (bs + a9) (nI 0), bo9, ot9) by (rw [pqStep_br _ _ _ c119, if_neg k1, if_neg k2, if_pos k4, if_neg k5] <;> rfl)]).trans hR
                        exact ih20 u48 ((pqF (ga st 32) np (a9 + 1)).1 + 1) (some (pqF (ga st 32) np (a9 + 1)).1) ((true, b0, mo) :: S8) (q9 + nI 1) al9 bg9 mi9 (upd mk9 (bs + a9) (nI 0)) bo9 ot9 n8 (by omega) (fun _ q9 => by cases q9; omega) (hS) hS5 ((by rw [if_neg (fun q9 => by cases q9)]; have := hn9; rw [if_pos rfl] at this; omega)) Eu48 hR (by rw [if_neg (fun q9 => by cases q9)]; rw [if_pos rfl] at hN; omega) H locs ls h (lv_sub hl [3, 4] rfl)
                    · rw [pqB, if_neg k1, if_neg k2, if_neg k4] at Eu48
                      replace Eu48 : u48 = rqS st (nI (a9 + 1), oI (some (a9 + 1)), nI (S8.length + 1), q9, al9, bg9, mi9, upd mk9 (bs + a9) (nI 0), bo9, ot9) := Eu48
                      refine lv_goto (tgt := 307) hx hb dX8_reads_127 (by decide) ?_
                      refine lv_goto (tgt := 20) hx hb dX8_reads_307 (by decide) ?_
                      replace hR := (show pqRun (ga st 32) np bs n8 ((a9 + 1), some (a9 + 1), (true, b0, mo) :: S8, q9, upd mk9 (bs + a9) (nI 0), bo9, ot9) = pqRun (ga st 32) np bs n8 (pqStep (ga st 32) np bs (a9, none, (true, b0, mo) :: S8, q9, mk9, bo9, ot9)) by rw [show pqStep (ga st 32) np bs (a9, none, (true, b0, mo) :: S8, q9, mk9, bo9, ot9) = ((a9 + 1), some (a9 + 1), (true, b0, mo) :: S8, q9, upd mk9 (bs + a9) (nI 0), bo9, ot9) by (rw [pqStep_br _ _ _ c119, if_neg k1, if_neg k2, if_neg k4] <;> rfl)]).trans hR
                      exact ih20 u48 (a9 + 1) (some (a9 + 1)) ((true, b0, mo) :: S8) (q9) al9 bg9 mi9 (upd mk9 (bs + a9) (nI 0)) bo9 ot9 n8 (by omega) (fun _ q9 => by cases q9; omega) (hS) hS5 ((by rw [if_neg (fun q9 => by cases q9)]; have := hn9; rw [if_pos rfl] at this; omega)) Eu48 hR (by rw [if_neg (fun q9 => by cases q9)]; rw [if_pos rfl] at hN; omega) H locs ls h (lv_sub hl [3, 4] rfl)
        · have hj9 := hf9 j9 rfl
          refine lv_icmp_ne (tgt := 310) hx hb dX8_reads_36 (by decide) (fun _ => ?_) (fun q9 => absurd q9 (nI_ne1 (by omega)))
          replace hv9 : v9 = rqS st (nI a9, nI j9, nI S.length, q9, al9, bg9, mi9, mk9, bo9, ot9) := hv9
          refine lv_aload_n hx hb dX8_reads_310 rfl (lv_at hl 0 rfl) ?_
          refine lv_aload_n hx hb dX8_reads_311 rfl (lv_at hl 0 rfl) ?_
          refine gf_X8_127 C h (hM 30 (by decide)) rfl dX8_reads_312 ?_
          refine x_topi (y := nI S.length) (by rw [hv9]; exact gi_rm11) ?_
          refine x_ifN_ne (tgt := 322) hx hb dX8_reads_315 (by decide) (by omega) (fun c315 => ?_) (fun c315 => ?_)
          · refine lv_iconst (v := nI 0) hx hb dX8_reads_322 (by decide) ?_
            refine x_topi (y := bi false) rfl ?_
            refine cl_X8_160 C h (hM 30 (by decide)) rfl (c_X8_expects l D cy ad Ls v9 hM (nI j9) (nI a9) (by rw [hv9]; exact gi_rm10) (by rw [hv9]; exact gi_rm9) false) (x_room (by omega)) ⟨Nat.zero_le _, Nat.zero_le _⟩ hl.1 (Nat.le_of_ble_eq_true rfl) dX8_reads_323 (fun u50 H locs hp h => ?_)
            have Eu50 := hp; clear hp
            rw [if_neg (fun q => nI_ne1 (by omega) q.1), hv9] at Eu50
            exact x_vret C hr hlocks h ⟨al9, bg9, mi9, by rw [show pqRd (ga st 32) np bs mk bo ot = (a9, some j9, S, q9, mk9, bo9, ot9) by (rw [pqRd, ← hR, pqRun_stop _ _ _ (fun q9 => by cases q9.2), pqFin]; rw [if_neg (fun q9 => by cases q9.1)])]; exact Eu50⟩ dX8_reads_326
          · refine lv_iconst (v := nI 1) hx hb dX8_reads_318 (by decide) ?_
            refine x_topi (y := bi true) rfl ?_
            refine lv_goto (tgt := 323) hx hb dX8_reads_319 (by decide) ?_
            refine cl_X8_160 C h (hM 30 (by decide)) rfl (c_X8_expects l D cy ad Ls v9 hM (nI j9) (nI a9) (by rw [hv9]; exact gi_rm10) (by rw [hv9]; exact gi_rm9) true) (x_room (by omega)) ⟨Nat.zero_le _, Nat.zero_le _⟩ hl.1 (Nat.le_of_ble_eq_true rfl) dX8_reads_323 (fun u52 H locs hp h => ?_)
            have Eu52 := hp; clear hp
            rw [if_neg (fun q => absurd q.2 (by decide)), hv9] at Eu52
            exact x_vret C hr hlocks h ⟨al9, bg9, mi9, by rw [show pqRd (ga st 32) np bs mk bo ot = (a9, some j9, S, q9, mk9, bo9, ot9) by (rw [pqRd, ← hR, pqRun_stop _ _ _ (fun q9 => by cases q9.2), pqFin]; rw [if_neg (fun q9 => by cases q9.1)])]; exact Eu52⟩ dX8_reads_326
  exact L20 1000 u4 0 none [] (nI 0) al bg mi mk bo ot 400 (by omega) (fun _ q9 => by cases q9) True.intro (by decide) (by rw [if_pos rfl]; omega) eu4 rfl (by rw [if_pos rfl]; omega) H locs ls h (lv_sub hl [0, 1] rfl)
