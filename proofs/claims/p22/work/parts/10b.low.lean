set_option maxHeartbeats 4000000 in
set_option maxRecDepth 100000 in
theorem c_L_cell (l : Launch) (D : va_G) (cy : Nat → ClassId) (ad : Nat → Nat) (Ls : List Nat) (st : XS) (b L : Nat) (xs : Nat → Int32) (hL9 : L < 2 ^ 31) (k : Nat) (hk9 : k < 100000) : xMiE (xScr b L xs) l yL_cell cL_cell 2 (some .int) 0 D cy ad Ls st [.ref b, .int (nI k)] (fun r u => r = celF L xs k ∧ u = st) := by
  intro sz
  refine x_ofE sz (by decide +kernel) (Nat.le_of_ble_eq_true rfl) ?_
  intro p e s m args below meth c ls hx hb hr hlocks C hsz hE h hl
  have hl : lv_has ls 2 [(0, .ref b), (1, .int (nI k))] := hl
  obtain ⟨H, eH⟩ : ∃ z, z = s.heap := ⟨_, rfl⟩
  obtain ⟨locs, eL⟩ : ∃ z : List Loc, z = [] := ⟨_, rfl⟩
  rw [← eH, ← eL] at h
  rw [← eH, ← eL]
  clear eH eL
  refine lv_iload_n hx hb dL_cell_0 rfl (lv_at hl 1 rfl) ?_
  refine lv_aload_n hx hb dL_cell_1 rfl (lv_at hl 0 rfl) ?_
  refine va_tlen hx hb hE h.2.2.1 (v := nI L) rfl dL_cell_2 ?_
  refine x_icmpN_ge (tgt := 12) hx hb dL_cell_3 (by decide) (by omega) (by omega) (fun c3 => ?_) (fun c3 => ?_)
  · refine lv_ldc (v := 1000308311) hx hb C.2.2.2.1 (C.2.2.2.2.1 _ tb766) dL_cell_12 ?_
    refine lv_iload_n hx hb dL_cell_14 rfl (lv_at hl 1 rfl) ?_
    refine lv_iconst (v := nI 1) hx hb dL_cell_15 (by decide) ?_
    refine x_addN hx hb dL_cell_16 ?_
    refine lv_imul hx hb dL_cell_17 ?_
    refine lv_ldc (v := 751363485) hx hb C.2.2.2.1 (C.2.2.2.2.1 _ tb767) dL_cell_18 ?_
    refine lv_iadd hx hb dL_cell_20 ?_
    exact x_iret C hr hlocks h ⟨by unfold celF; rw [if_neg (Nat.not_lt.mpr c3)], rfl⟩ dL_cell_21
  · refine lv_aload_n hx hb dL_cell_6 rfl (lv_at hl 0 rfl) ?_
    refine lv_iload_n hx hb dL_cell_7 rfl (lv_at hl 1 rfl) ?_
    refine va_ti hx hb hE h.2.2.1 (v := .int (xs k)) (vp_in_nI c3 hL9) (by show Value.int (xs (nI k).toNatClampNeg) = _; rw [nI_clamp (by omega)]) dL_cell_8 ?_
    refine lv_goto (tgt := 21) hx hb dL_cell_9 (by decide) ?_
    exact x_iret C hr hlocks h ⟨by unfold celF; rw [if_pos c3], rfl⟩ dL_cell_21

set_option maxHeartbeats 4000000 in
set_option maxRecDepth 100000 in
theorem c_L_low (l : Launch) (D : va_G) (cy : Nat → ClassId) (ad : Nat → Nat) (Ls : List Nat) (st : XS) (x : Int32) (n : Nat) (hn0 : 0 < n) (hn9 : n < 2 ^ 31) : xMi l yL_low cL_low 2 (some .int) 0 D cy ad Ls st [.int x, .int (nI n)] (fun r u => r = nI (lowN x n) ∧ u = st) := by
  intro sz
  refine x_of sz (by decide +kernel) (Nat.le_of_ble_eq_true rfl) ?_
  intro p e s m args below meth c ls hx hb hr hlocks C hsz h hl
  have hl : lv_has ls 2 [(0, .int x), (1, .int (nI n))] := hl
  obtain ⟨H, eH⟩ : ∃ z, z = s.heap := ⟨_, rfl⟩
  obtain ⟨locs, eL⟩ : ∃ z : List Loc, z = [] := ⟨_, rfl⟩
  rw [← eH, ← eL] at h
  rw [← eH, ← eL]
  clear eH eL
  refine lv_iload_n hx hb dL_low_0 rfl (lv_at hl 0 rfl) ?_
  refine lv_ldc (v := 2147483647) hx hb C.2.2.2.1 (C.2.2.2.2.1 _ tb771) dL_low_1 ?_
  refine lv_iand hx hb dL_low_3 ?_
  refine lv_iload_n hx hb dL_low_4 rfl (lv_at hl 1 rfl) ?_
  refine lv_irem hx hb dL_low_5 (nI_ne0 hn0 hn9) ?_
  exact x_iret C hr hlocks h ⟨lowN_e hn0 hn9, rfl⟩ dL_low_6
