/-! ===== the reference: small steps of reading and writing ===== -/
/-- the sign at a place of the page, none behind its end -/
def msgF (f : Nat → Int32) (np p : Nat) : Int32 := if p < np then f p else -1
def mwS (st : XS) (x : Int32 × Int32) : XS := si (si st 49 30 x.2) 47 30 x.1
/-- is one of the first k a loop -/
def ilF (lp : Nat → Bool) : Nat → Bool
  | 0 => false
  | k + 1 => ilF lp k || lp k

set_option maxHeartbeats 4000000 in
set_option maxRecDepth 100000 in
theorem c_X8_sign (l : Launch) (D : va_G) (cy : Nat → ClassId) (ad : Nat → Nat) (Ls : List Nat) (st : XS) (hM : ∀ k, k ∈ LsM → k ∈ Ls) (np k : Nat) (hnp160 : np ≤ 160) (hk31 : k < 100000) (hnp : gi st 1 30 = nI np) : xMi l yX8_sign cX8_sign 2 (some .int) 0 D cy ad Ls st [.ref (ad 30), .int (nI k)] (fun r u => r = msgF (ga st 32) np k ∧ u = st) := by
  intro sz
  refine x_of sz (by decide +kernel) (Nat.le_of_ble_eq_true rfl) ?_
  intro p e s m args below meth c ls hx hb hr hlocks C hsz h hl
  have hl : lv_has ls 2 [(0, .ref (ad 30)), (1, .int (nI k))] := hl
  obtain ⟨H, eH⟩ : ∃ z, z = s.heap := ⟨_, rfl⟩
  obtain ⟨locs, eL⟩ : ∃ z : List Loc, z = [] := ⟨_, rfl⟩
  rw [← eH, ← eL] at h
  rw [← eH, ← eL]
  clear eH eL
  refine lv_iload_n hx hb dX8_sign_0 rfl (lv_at hl 1 rfl) ?_
  refine lv_aload_n hx hb dX8_sign_1 rfl (lv_at hl 0 rfl) ?_
  refine gf_X8_124 C h (hM 30 (by decide)) rfl dX8_sign_2 ?_
  refine x_topi hnp ?_
  refine x_icmpN_ge (tgt := 17) hx hb dX8_sign_5 (by decide) (by omega) (by omega) (fun c5 => ?_) (fun c5 => ?_)
  · refine lv_iconst (v := (-1)) hx hb dX8_sign_17 (by decide) ?_
    exact x_iret C hr hlocks h ⟨by rw [msgF, if_neg (Nat.not_lt.mpr c5)], rfl⟩ dX8_sign_18
  · refine lv_aload_n hx hb dX8_sign_8 rfl (lv_at hl 0 rfl) ?_
    refine gf_X8_7 C h (hM 30 (by decide)) rfl (k2 := 32) rfl dX8_sign_9 ?_
    refine lv_iload_n hx hb dX8_sign_12 rfl (lv_at hl 1 rfl) ?_
    refine x_ald C h (hM 32 (by decide)) (n := 160) rfl k (by omega) (by decide) rfl dX8_sign_13 ?_
    refine lv_goto (tgt := 18) hx hb dX8_sign_14 (by decide) ?_
    exact x_iret C hr hlocks h ⟨by rw [msgF, if_pos c5], rfl⟩ dX8_sign_18

set_option maxHeartbeats 4000000 in
set_option maxRecDepth 100000 in
theorem c_X8_expects (l : Launch) (D : va_G) (cy : Nat → ClassId) (ad : Nat → Nat) (Ls : List Nat) (st : XS) (hM : ∀ k, k ∈ LsM → k ∈ Ls) (fa at9 : Int32) (hfa : gi st 10 30 = fa) (hat : gi st 9 30 = at9) (is : Bool) : xMv l yX8_expects cX8_expects 2 0 D cy ad Ls st [.ref (ad 30), .int (bi is)] (fun u => u = if fa = -1 ∧ is = false then si st 10 30 at9 else st) := by
  intro sz
  refine x_of sz (by decide +kernel) (Nat.le_of_ble_eq_true rfl) ?_
  intro p e s m args below meth c ls hx hb hr hlocks C hsz h hl
  have hl : lv_has ls 2 [(0, .ref (ad 30)), (1, .int (bi is))] := hl
  obtain ⟨H, eH⟩ : ∃ z, z = s.heap := ⟨_, rfl⟩
  obtain ⟨locs, eL⟩ : ∃ z : List Loc, z = [] := ⟨_, rfl⟩
  rw [← eH, ← eL] at h
  rw [← eH, ← eL]
  clear eH eL
  refine lv_aload_n hx hb dX8_expects_0 rfl (lv_at hl 0 rfl) ?_
  refine gf_X8_148 C h (hM 30 (by decide)) rfl dX8_expects_1 ?_
  refine x_topi hfa ?_
  refine lv_iconst (v := (-1)) hx hb dX8_expects_4 (by decide) ?_
  refine lv_icmp_ne (tgt := 20) hx hb dX8_expects_5 (by decide) (fun c5 => ?_) (fun c5 => ?_)
  · exact x_vret C hr hlocks h (by rw [if_neg (fun q => c5 q.1)]) dX8_expects_20
  · refine lv_iload_n hx hb dX8_expects_8 rfl (lv_at hl 1 rfl) ?_
    refine x_ifb_ne (tgt := 20) hx hb dX8_expects_9 (by decide) (fun c9 => ?_) (fun c9 => ?_)
    · exact x_vret C hr hlocks h (by rw [if_neg (fun q => by rw [c9] at q; exact absurd q.2 (by decide))]) dX8_expects_20
    · refine lv_aload_n hx hb dX8_expects_12 rfl (lv_at hl 0 rfl) ?_
      refine lv_aload_n hx hb dX8_expects_13 rfl (lv_at hl 0 rfl) ?_
      refine gf_X8_134 C h (hM 30 (by decide)) rfl dX8_expects_14 ?_
      refine x_topi hat ?_
      refine pf_X8_148 C h (hM 30 (by decide)) rfl dX8_expects_17 (fun H locs u1 eu1 h => ?_)
      have e3 : gi u1 9 30 = at9 := by rw [eu1, gi_si, if_neg (by omega)]; exact hat
      have e4 : gi u1 10 30 = at9 := by rw [eu1, gi_si, if_pos ⟨rfl, rfl⟩]
      exact x_vret C hr hlocks h (by rw [if_pos ⟨c5, c9⟩]; exact eu1) dX8_expects_20
