/-! ===== String.indexOf of the two texts of names, isName ===== -/
def inB (bs : List Int32) (len : Nat) (ch : Int32) : Prop := (0 ≤ ch ∧ ch ≤ nI 255) ∧ ∃ j, j < len ∧ bs.getD j 0 = ch.toInt8.toInt32
def enB (i : Int32) : Bool := decide (0 ≤ i ∧ i ≤ nI 255)
theorem shr0 (x : Int32) : x >>> ((0 : Int32) &&& 31) = x := by
  apply Int32.toBitVec_inj.mp
  simp
section XJ
variable {p : Program} {l : Launch} {e : Env} {R : Room} {s : State} {m : MethodId} {args : Array Value} {below : List Frame} {meth : Method} {c : Code} {H : Heap} {locs : List Loc} {cells slots : Nat} {Q : State → Prop}
variable {cc : ByteArray} {pc nL : Nat} {ls : Array Slot} {rest : List Value} {D : va_G} {cy : Nat → ClassId} {ad : Nat → Nat} {Ls : List Nat} {A : Nat → Prop} {st : XS}
theorem xj_gets (C : xCx p m c cc nL s args RJ0 D cy) (h : xH D cy ad Ls A s st H locs) (hdg : decode cc pc = .ok (.getstatic 38, 3)) (kk : W p l e R s m args below meth c H locs cells slots Q (F0 m (pc + 3) ls (.int 1 :: rest))) : W p l e R s m args below meth c H locs cells slots Q (F0 m pc ls rest) :=
  va_gets C.1 C.2.1 h.2.2.2.2.2.2.1 h.2.2.1 C.2.2.2.1 (C.2.2.2.2.1 _ tb448) (fun _ q => q) hdg kk
theorem xj_coder (C : xCx p m c cc nL s args RJ0 D cy) (h : xH D cy ad Ls A s st H locs) {q v len : Nat} {bs : List Int32} (hE : xStr q v len bs A s s.heap) (hdg : decode cc pc = .ok (.getfield 15, 3)) (kk : W p l e R s m args below meth c H locs cells slots Q (F0 m (pc + 3) ls (.int 0 :: rest))) : W p l e R s m args below meth c H locs cells slots Q (F0 m pc ls (.ref q :: rest)) :=
  vk_getf C.1 C.2.1 hE.2.1 h.2.2.1 C.2.2.2.1 (C.2.2.2.2.1 _ tb814) (fun _ q => q) hdg kk
theorem xj_value (C : xCx p m c cc nL s args RJ0 D cy) (h : xH D cy ad Ls A s st H locs) {q v len : Nat} {bs : List Int32} (hE : xStr q v len bs A s s.heap) (hdg : decode cc pc = .ok (.getfield 9, 3)) (kk : W p l e R s m args below meth c H locs cells slots Q (F0 m (pc + 3) ls (.ref v :: rest))) : W p l e R s m args below meth c H locs cells slots Q (F0 m pc ls (.ref q :: rest)) :=
  vk_getf C.1 C.2.1 hE.2.2.1 h.2.2.1 C.2.2.2.1 (C.2.2.2.2.1 _ tb815) (fun _ q => q) hdg kk
theorem xj_recv (h : xH D cy ad Ls A s st H locs) {q v len : Nat} {bs : List Int32} (hE : xStr q v len bs A s s.heap) : ∃ cell : Cell, H[q]? = some cell ∧ cell.vm.isStatics = false ∧ s.vm.findClass "java/lang/String" = some cell.cls := by
  obtain ⟨cell, h1, h2, h3, -⟩ := hE.1.kept h.2.2.1.2.1
  exact ⟨cell, h1, h2, h3⟩
theorem xj_len {own : String} (C : xCx p m c cc nL s args own D cy) (h : xH D cy ad Ls A s st H locs) {v len : Nat} {bs : List Int32} (hE : xByt v len bs A s s.heap) (hdg : decode cc pc = .ok (.arraylength, 1)) (kk : W p l e R s m args below meth c H locs cells slots Q (F0 m (pc + 1) ls (.int (nI len) :: rest))) : W p l e R s m args below meth c H locs cells slots Q (F0 m pc ls (.ref v :: rest)) :=
  va_tlen C.1 C.2.1 hE h.2.2.1 rfl hdg kk
theorem xj_ald {own : String} (C : xCx p m c cc nL s args own D cy) (h : xH D cy ad Ls A s st H locs) {v len j : Nat} {bs : List Int32} (hE : xByt v len bs A s s.heap) (hj : j < len) (hlen : len < 2 ^ 31) (hdg : decode cc pc = .ok (.baload, 1)) (kk : W p l e R s m args below meth c H locs cells slots Q (F0 m (pc + 1) ls (.int (bs.getD j 0) :: rest))) : W p l e R s m args below meth c H locs cells slots Q (F0 m pc ls (.int (nI j) :: .ref v :: rest)) :=
  va_tb C.1 C.2.1 hE h.2.2.1 (vp_in_nI hj hlen) (by show Value.int (bs.getD (nI j).toNatClampNeg 0) = _; rw [nI_clamp (by omega)]) hdg kk
end XJ

set_option maxHeartbeats 4000000 in
set_option maxRecDepth 100000 in
theorem c_J1_canEncode (l : Launch) (D : va_G) (cy : Nat → ClassId) (ad : Nat → Nat) (Ls : List Nat) (st : XS) (i : Int32) : xMi l yJ1_canEncode_9a6ad cJ1_canEncode_9a6ad 1 (some .boolean) 0 D cy ad Ls st [.int i] (fun r u => r = bi (enB i) ∧ u = st) := by
  intro sz
  refine x_of sz (by decide +kernel) (Nat.le_of_ble_eq_true rfl) ?_
  intro p e s m args below meth c ls hx hb hr hlocks C hsz h hl
  have hl : lv_has ls 1 [(0, .int i)] := hl
  obtain ⟨H, eH⟩ : ∃ z, z = s.heap := ⟨_, rfl⟩
  obtain ⟨locs, eL⟩ : ∃ z : List Loc, z = [] := ⟨_, rfl⟩
  rw [← eH, ← eL] at h
  rw [← eH, ← eL]
  clear eH eL
  refine lv_iload_n hx hb dJ1_canEncode_9a6ad_0 rfl (lv_at hl 0 rfl) ?_
  refine lv_if_lt (tgt := 15) hx hb dJ1_canEncode_9a6ad_1 (by decide) (fun c1 => ?_) (fun c1 => ?_)
  · refine lv_iconst (v := nI 0) hx hb dJ1_canEncode_9a6ad_15 (by decide) ?_
    exact x_zret C hr hlocks (by first | rfl | exact bi_zn _ | decide) h ⟨by rw [enB, decide_eq_false (fun q => i32_lt_nle c1 q.1)]; rfl, rfl⟩ dJ1_canEncode_9a6ad_16
  · refine lv_iload_n hx hb dJ1_canEncode_9a6ad_4 rfl (lv_at hl 0 rfl) ?_
    refine lv_sipush (v := nI 255) hx hb dJ1_canEncode_9a6ad_5 (by decide) ?_
    refine lv_icmp_gt (tgt := 15) hx hb dJ1_canEncode_9a6ad_8 (by decide) (fun c8 => ?_) (fun c8 => ?_)
    · refine lv_iconst (v := nI 0) hx hb dJ1_canEncode_9a6ad_15 (by decide) ?_
      exact x_zret C hr hlocks (by first | rfl | exact bi_zn _ | decide) h ⟨by rw [enB, decide_eq_false (fun q => i32_lt_nle c8 q.2)]; rfl, rfl⟩ dJ1_canEncode_9a6ad_16
    · refine lv_iconst (v := nI 1) hx hb dJ1_canEncode_9a6ad_11 (by decide) ?_
      refine lv_goto (tgt := 16) hx hb dJ1_canEncode_9a6ad_12 (by decide) ?_
      exact x_zret C hr hlocks (by first | rfl | exact bi_zn _ | decide) h ⟨by rw [enB, decide_eq_true ⟨i32_nlt c1, i32_nlt c8⟩]; rfl, rfl⟩ dJ1_canEncode_9a6ad_16

set_option maxHeartbeats 4000000 in
set_option maxRecDepth 100000 in
theorem c_J1_indexOfChar (l : Launch) (D : va_G) (cy : Nat → ClassId) (ad : Nat → Nat) (Ls : List Nat) (st : XS) (v len : Nat) (bs : List Int32) (hlen : len < 2 ^ 31) (ch : Int32) : xMiE (xByt v len bs) l yJ1_indexOfChar_4cfef cJ1_indexOfChar_4cfef 6 (some .int) 0 D cy ad Ls st [.ref v, .int ch, .int (nI 0), .int (nI len)] (fun r u => (0 ≤ r ↔ ∃ j, j < len ∧ bs.getD j 0 = ch.toInt8.toInt32) ∧ u = st) := by
  intro sz
  refine x_ofE sz (by decide +kernel) (Nat.le_of_ble_eq_true rfl) ?_
  intro p e s m args below meth c ls hx hb hr hlocks C hsz hE h hl
  have hl : lv_has ls 6 [(0, .ref v), (1, .int ch), (2, .int (nI 0)), (3, .int (nI len))] := hl
  obtain ⟨H, eH⟩ : ∃ z, z = s.heap := ⟨_, rfl⟩
  obtain ⟨locs, eL⟩ : ∃ z : List Loc, z = [] := ⟨_, rfl⟩
  rw [← eH, ← eL] at h
  rw [← eH, ← eL]
  clear eH eL
  refine lv_iload_n hx hb dJ1_indexOfChar_4cfef_0 rfl (lv_at hl 1 rfl) ?_
  refine lv_i2b hx hb dJ1_indexOfChar_4cfef_1 rfl ?_
  refine lv_istore (lv' := [(4, .int ch.toInt8.toInt32), (0, .ref v), (1, .int ch), (2, .int (nI 0)), (3, .int (nI len))]) hx hb dJ1_indexOfChar_4cfef_2 hl (by decide) rfl (fun ls hl => ?_)
  refine lv_iload_n hx hb dJ1_indexOfChar_4cfef_4 rfl (lv_at hl 3 rfl) ?_
  refine lv_istore (lv' := [(5, .int (nI 0)), (4, .int ch.toInt8.toInt32), (0, .ref v), (1, .int ch), (2, .int (nI 0)), (3, .int (nI len))]) hx hb dJ1_indexOfChar_4cfef_5 hl (by decide) rfl (fun ls hl => ?_)
  have L7 : ∀ (N7 : Nat) (j : Nat) (hj : j ≤ len) (hq : ∀ i, i < j → ¬ bs.getD i 0 = ch.toInt8.toInt32) (hN : len - j < N7) (H : Heap) (locs : List Loc) (ls : Array Slot), xH D cy ad Ls (XA ad Ls sz) s st H locs → lv_has ls 6 [(0, .ref v), (3, .int (nI len)), (4, .int ch.toInt8.toInt32), (5, .int (nI j))] → W p l e (xR 0) s m args below meth c H locs 0 0 (MQ below (va_Qi (fun r u => (0 ≤ r ↔ ∃ j, j < len ∧ bs.getD j 0 = ch.toInt8.toInt32) ∧ u = st) (fun u => xPost D cy ad Ls (XA ad Ls sz) u) (XA ad Ls sz)) args s 0 0 (XA ad Ls sz)) (F0 m 7 ls []) := by
    intro N7
    induction N7 with
    | zero => intro j hj hq hN; omega
    | succ N7 ih7 =>
      intro j hj hq hN H locs ls h hl
      refine lv_iload hx hb dJ1_indexOfChar_4cfef_7 (lv_at hl 3 rfl) ?_
      refine lv_iload_n hx hb dJ1_indexOfChar_4cfef_9 rfl (lv_at hl 1 rfl) ?_
      refine x_icmpN_ge (tgt := 31) hx hb dJ1_indexOfChar_4cfef_10 (by decide) (by omega) (by omega) (fun c10 => ?_) (fun c10 => ?_)
      · refine lv_iconst (v := (-1)) hx hb dJ1_indexOfChar_4cfef_31 (by decide) ?_
        exact x_iret C hr hlocks h ⟨⟨fun q => absurd q (by decide), fun ⟨i, h1, h2⟩ => absurd h2 (hq i (by omega))⟩, rfl⟩ dJ1_indexOfChar_4cfef_32
      · refine lv_aload_n hx hb dJ1_indexOfChar_4cfef_13 rfl (lv_at hl 0 rfl) ?_
        refine lv_iload hx hb dJ1_indexOfChar_4cfef_14 (lv_at hl 3 rfl) ?_
        refine xj_ald C h hE (j := j) (by omega) hlen dJ1_indexOfChar_4cfef_16 ?_
        refine lv_iload hx hb dJ1_indexOfChar_4cfef_17 (lv_at hl 2 rfl) ?_
        refine lv_icmp_ne (tgt := 25) hx hb dJ1_indexOfChar_4cfef_19 (by decide) (fun c19 => ?_) (fun c19 => ?_)
        · refine lv_iinc (v := nI (j + 1)) (lv' := [(5, .int (nI (j + 1))), (0, .ref v), (3, .int (nI len)), (4, .int ch.toInt8.toInt32)]) hx hb dJ1_indexOfChar_4cfef_25 hl (k := 3) rfl (nI_add _ _) (by decide) rfl (fun ls hl => ?_)
          refine lv_goto (tgt := 7) hx hb dJ1_indexOfChar_4cfef_28 (by decide) ?_
          exact ih7 (j + 1) (by omega) (fun i hi => by rcases Nat.lt_or_ge i j with q | q; exact hq i q; rw [show i = j by omega]; exact c19) (by omega) H locs ls h (lv_sub hl [1, 2, 3, 0] rfl)
        · refine lv_iload hx hb dJ1_indexOfChar_4cfef_22 (lv_at hl 3 rfl) ?_
          exact x_iret C hr hlocks h ⟨⟨fun _ => ⟨j, by omega, c19⟩, fun _ => nI_pos' (by omega)⟩, rfl⟩ dJ1_indexOfChar_4cfef_24
  exact L7 (len + 1) 0 (by omega) (fun i hi => absurd hi (Nat.not_lt_zero i)) (by omega) H locs ls h (lv_sub hl [2, 5, 1, 0] rfl)

set_option maxHeartbeats 4000000 in
set_option maxRecDepth 100000 in
theorem c_J1_indexOf (l : Launch) (D : va_G) (cy : Nat → ClassId) (ad : Nat → Nat) (Ls : List Nat) (st : XS) (v len : Nat) (bs : List Int32) (hlen : len < 2 ^ 31) (ch : Int32) : xMiE (xByt v len bs) l yJ1_indexOf_4cfef cJ1_indexOf_4cfef 4 (some .int) 1 D cy ad Ls st [.ref v, .int ch, .int (nI 0), .int (nI len)] (fun r u => (0 ≤ r ↔ inB bs len ch) ∧ u = st) := by
  intro sz
  refine x_ofE sz (by decide +kernel) (Nat.le_of_ble_eq_true rfl) ?_
  intro p e s m args below meth c ls hx hb hr hlocks C hsz hE h hl
  have hl : lv_has ls 4 [(0, .ref v), (1, .int ch), (2, .int (nI 0)), (3, .int (nI len))] := hl
  obtain ⟨H, eH⟩ : ∃ z, z = s.heap := ⟨_, rfl⟩
  obtain ⟨locs, eL⟩ : ∃ z : List Loc, z = [] := ⟨_, rfl⟩
  rw [← eH, ← eL] at h
  rw [← eH, ← eL]
  clear eH eL
  refine lv_iload_n hx hb dJ1_indexOf_4cfef_0 rfl (lv_at hl 1 rfl) ?_
  refine x_fi h (x_rSg (rest := []) C (c_J1_canEncode l D cy ad Ls st ch H.size) xPre_blind (fun U hU hW => ⟨rfl, x_pre C h U hU hW⟩) rfl rfl rfl tb461 tb462 tb57 tb463 (na := 1) rfl (by decide +kernel) (by decide) (by decide) ⟨Nat.zero_le _, Nat.zero_le _⟩ hl.1 rfl (Nat.le_of_ble_eq_true rfl) dJ1_indexOf_4cfef_1) (fun r u H locs hp h => ?_)
  obtain ⟨er, eu⟩ := hp; rw [eu] at h; refine x_topi er ?_; clear er eu r u
  refine x_ifb_ne (tgt := 9) hx hb dJ1_indexOf_4cfef_4 (by decide) (fun c4 => ?_) (fun c4 => ?_)
  · refine lv_iload_n hx hb dJ1_indexOf_4cfef_9 rfl (lv_at hl 2 rfl) ?_
    refine lv_iconst (v := nI 0) hx hb dJ1_indexOf_4cfef_10 (by decide) ?_
    refine va_mmax hx hb (C.2.2.1.trans hl.1.symm) C.2.2.2.1 (C.2.2.2.2.1 _ tb464) (C.2.2.2.2.1 _ tb465) (C.2.2.2.2.1 _ tb58) (C.2.2.2.2.1 _ tb466) (by decide) (by decide) (Nat.zero_le _) (Nat.zero_le _) dJ1_indexOf_4cfef_11 ?_
    refine x_topi (y := nI 0) (by decide) ?_
    refine lv_istore_n (lv' := [(2, .int (nI 0)), (0, .ref v), (1, .int ch), (3, .int (nI len))]) hx hb dJ1_indexOf_4cfef_14 rfl hl (by decide) rfl (fun ls hl => ?_)
    refine lv_iload_n hx hb dJ1_indexOf_4cfef_15 rfl (lv_at hl 3 rfl) ?_
    refine lv_aload_n hx hb dJ1_indexOf_4cfef_16 rfl (lv_at hl 1 rfl) ?_
    refine xj_len C h hE dJ1_indexOf_4cfef_17 ?_
    refine va_mmin hx hb (C.2.2.1.trans hl.1.symm) C.2.2.2.1 (C.2.2.2.2.1 _ tb467) (C.2.2.2.2.1 _ tb468) (C.2.2.2.2.1 _ tb58) (C.2.2.2.2.1 _ tb469) (by decide) (by decide) (Nat.zero_le _) (Nat.zero_le _) dJ1_indexOf_4cfef_18 ?_
    refine x_topi (y := nI len) (by rw [if_neg]; rw [Int32.lt_iff_toInt_lt]; omega) ?_
    refine lv_istore_n (lv' := [(3, .int (nI len)), (2, .int (nI 0)), (0, .ref v), (1, .int ch)]) hx hb dJ1_indexOf_4cfef_21 rfl hl (by decide) rfl (fun ls hl => ?_)
    refine lv_iload_n hx hb dJ1_indexOf_4cfef_22 rfl (lv_at hl 1 rfl) ?_
    refine lv_iload_n hx hb dJ1_indexOf_4cfef_23 rfl (lv_at hl 0 rfl) ?_
    refine x_icmpN_lt (tgt := 29) hx hb dJ1_indexOf_4cfef_24 (by decide) (by omega) (by omega) (fun c24 => ?_) (fun c24 => ?_)
    · refine lv_aload_n hx hb dJ1_indexOf_4cfef_29 rfl (lv_at hl 2 rfl) ?_
      refine lv_iload_n hx hb dJ1_indexOf_4cfef_30 rfl (lv_at hl 3 rfl) ?_
      refine lv_iload_n hx hb dJ1_indexOf_4cfef_31 rfl (lv_at hl 1 rfl) ?_
      refine lv_iload_n hx hb dJ1_indexOf_4cfef_32 rfl (lv_at hl 0 rfl) ?_
      refine x_fi h (x_rSg (rest := []) C (c_J1_indexOfChar l D cy ad Ls st v len bs hlen ch H.size) (xPreE_blind (xByt_ok v len bs)) (fun U hU hW => ⟨rfl, x_preE (xByt_ok v len bs) C h hE U hU hW⟩) rfl rfl rfl tb470 tb471 tb57 tb472 (na := 4) rfl (by decide +kernel) (by decide) (by decide) ⟨Nat.zero_le _, Nat.zero_le _⟩ hl.1 rfl (Nat.le_of_ble_eq_true rfl) dJ1_indexOf_4cfef_33) (fun r u H locs hp h => ?_)
      obtain ⟨er, eu⟩ := hp; rw [eu] at h; clear eu u
      exact x_iret C hr hlocks h ⟨⟨fun q => ⟨by rw [enB] at c4; exact of_decide_eq_true c4, er.mp q⟩, fun q => er.mpr q.2⟩, rfl⟩ dJ1_indexOf_4cfef_36
    · refine lv_iconst (v := (-1)) hx hb dJ1_indexOf_4cfef_27 (by decide) ?_
      exact x_iret C hr hlocks h ⟨⟨fun q => absurd q (by decide), fun ⟨_, j, h1, _⟩ => absurd h1 (by omega)⟩, rfl⟩ dJ1_indexOf_4cfef_28
  · refine lv_iconst (v := (-1)) hx hb dJ1_indexOf_4cfef_7 (by decide) ?_
    exact x_iret C hr hlocks h ⟨⟨fun q => absurd q (by decide), fun q => by have z9 := q.1; rw [← decide_eq_true_iff (p := 0 ≤ ch ∧ ch ≤ nI 255)] at z9; rw [enB] at c4; rw [c4] at z9; cases z9⟩, rfl⟩ dJ1_indexOf_4cfef_8

set_option maxHeartbeats 4000000 in
set_option maxRecDepth 100000 in
theorem c_J0_coder (l : Launch) (D : va_G) (cy : Nat → ClassId) (ad : Nat → Nat) (Ls : List Nat) (st : XS) (q v len : Nat) (bs : List Int32) : xMiE (xStr q v len bs) l yJ0_coder_7d493 cJ0_coder_7d493 1 (some .byte) 0 D cy ad Ls st [.ref q] (fun r u => r = 0 ∧ u = st) := by
  intro sz
  refine x_ofE sz (by decide +kernel) (Nat.le_of_ble_eq_true rfl) ?_
  intro p e s m args below meth c ls hx hb hr hlocks C hsz hE h hl
  have hl : lv_has ls 1 [(0, .ref q)] := hl
  obtain ⟨H, eH⟩ : ∃ z, z = s.heap := ⟨_, rfl⟩
  obtain ⟨locs, eL⟩ : ∃ z : List Loc, z = [] := ⟨_, rfl⟩
  rw [← eH, ← eL] at h
  rw [← eH, ← eL]
  clear eH eL
  refine xj_gets C h dJ0_coder_7d493_0 ?_
  refine x_topi (y := bi true) rfl ?_
  refine x_ifb_eq (tgt := 13) hx hb dJ0_coder_7d493_3 (by decide) (fun q => by cases q) (fun _ => ?_)
  refine lv_aload_n hx hb dJ0_coder_7d493_6 rfl (lv_at hl 0 rfl) ?_
  refine xj_coder C h hE dJ0_coder_7d493_7 ?_
  refine lv_goto (tgt := 14) hx hb dJ0_coder_7d493_10 (by decide) ?_
  exact x_zret C hr hlocks rfl h ⟨rfl, rfl⟩ dJ0_coder_7d493_14

set_option maxHeartbeats 4000000 in
set_option maxRecDepth 100000 in
theorem c_J0_isLatin1 (l : Launch) (D : va_G) (cy : Nat → ClassId) (ad : Nat → Nat) (Ls : List Nat) (st : XS) (q v len : Nat) (bs : List Int32) : xMiE (xStr q v len bs) l yJ0_isLatin1_aae02 cJ0_isLatin1_aae02 1 (some .boolean) 0 D cy ad Ls st [.ref q] (fun r u => r = bi true ∧ u = st) := by
  intro sz
  refine x_ofE sz (by decide +kernel) (Nat.le_of_ble_eq_true rfl) ?_
  intro p e s m args below meth c ls hx hb hr hlocks C hsz hE h hl
  have hl : lv_has ls 1 [(0, .ref q)] := hl
  obtain ⟨H, eH⟩ : ∃ z, z = s.heap := ⟨_, rfl⟩
  obtain ⟨locs, eL⟩ : ∃ z : List Loc, z = [] := ⟨_, rfl⟩
  rw [← eH, ← eL] at h
  rw [← eH, ← eL]
  clear eH eL
  refine xj_gets C h dJ0_isLatin1_aae02_0 ?_
  refine x_topi (y := bi true) rfl ?_
  refine x_ifb_eq (tgt := 17) hx hb dJ0_isLatin1_aae02_3 (by decide) (fun q => by cases q) (fun _ => ?_)
  refine lv_aload_n hx hb dJ0_isLatin1_aae02_6 rfl (lv_at hl 0 rfl) ?_
  refine xj_coder C h hE dJ0_isLatin1_aae02_7 ?_
  refine lv_if_ne (tgt := 17) hx hb dJ0_isLatin1_aae02_10 (by decide) (fun q => absurd rfl q) (fun _ => ?_)
  refine lv_iconst (v := nI 1) hx hb dJ0_isLatin1_aae02_13 (by decide) ?_
  refine lv_goto (tgt := 18) hx hb dJ0_isLatin1_aae02_14 (by decide) ?_
  exact x_zret C hr hlocks (by first | rfl | exact bi_zn _ | decide) h ⟨rfl, rfl⟩ dJ0_isLatin1_aae02_18

set_option maxHeartbeats 4000000 in
set_option maxRecDepth 100000 in
theorem c_J0_length (l : Launch) (D : va_G) (cy : Nat → ClassId) (ad : Nat → Nat) (Ls : List Nat) (st : XS) (q v len : Nat) (bs : List Int32) : xMiE (xStr q v len bs) l yJ0_length_8abf5 cJ0_length_8abf5 1 (some .int) 1 D cy ad Ls st [.ref q] (fun r u => r = nI len ∧ u = st) := by
  intro sz
  refine x_ofE sz (by decide +kernel) (Nat.le_of_ble_eq_true rfl) ?_
  intro p e s m args below meth c ls hx hb hr hlocks C hsz hE h hl
  have hl : lv_has ls 1 [(0, .ref q)] := hl
  obtain ⟨H, eH⟩ : ∃ z, z = s.heap := ⟨_, rfl⟩
  obtain ⟨locs, eL⟩ : ∃ z : List Loc, z = [] := ⟨_, rfl⟩
  rw [← eH, ← eL] at h
  rw [← eH, ← eL]
  clear eH eL
  refine lv_aload_n hx hb dJ0_length_8abf5_0 rfl (lv_at hl 0 rfl) ?_
  refine xj_value C h hE dJ0_length_8abf5_1 ?_
  refine xj_len C h hE.2.2.2 dJ0_length_8abf5_4 ?_
  refine lv_aload_n hx hb dJ0_length_8abf5_5 rfl (lv_at hl 0 rfl) ?_
  refine x_fi h (x_rVg (As := []) (rest := [.int (nI len)]) C (xj_recv h hE) (c_J0_coder l D cy ad Ls st q v len bs H.size) (xPreE_blind (xStr_ok q v len bs)) (fun U hU hW => ⟨rfl, x_preE (xStr_ok q v len bs) C h hE U hU hW⟩) rfl rfl rfl rfl tb454 tb455 tb456 tb56 tb457 (na := 0) rfl (by decide +kernel) (by decide) (by decide) ⟨Nat.zero_le _, Nat.zero_le _⟩ hl.1 rfl (Nat.le_of_ble_eq_true rfl) dJ0_length_8abf5_6) (fun r u H locs hp h => ?_)
  obtain ⟨er, eu⟩ := hp; rw [eu] at h; refine x_topi er ?_; clear er eu r u
  refine lv_ishr hx hb dJ0_length_8abf5_9 ?_
  refine x_topi (y := nI len) (shr0 _) ?_
  exact x_iret C hr hlocks h ⟨rfl, rfl⟩ dJ0_length_8abf5_10

set_option maxHeartbeats 4000000 in
set_option maxRecDepth 100000 in
theorem c_J0_indexOf2 (l : Launch) (D : va_G) (cy : Nat → ClassId) (ad : Nat → Nat) (Ls : List Nat) (st : XS) (q v len : Nat) (bs : List Int32) (hlen : len < 2 ^ 31) (ch : Int32) : xMiE (xStr q v len bs) l yJ0_indexOf_7cf53 cJ0_indexOf_7cf53 3 (some .int) 2 D cy ad Ls st [.ref q, .int ch, .int (nI 0)] (fun r u => (0 ≤ r ↔ inB bs len ch) ∧ u = st) := by
  intro sz
  refine x_ofE sz (by decide +kernel) (Nat.le_of_ble_eq_true rfl) ?_
  intro p e s m args below meth c ls hx hb hr hlocks C hsz hE h hl
  have hl : lv_has ls 3 [(0, .ref q), (1, .int ch), (2, .int (nI 0))] := hl
  obtain ⟨H, eH⟩ : ∃ z, z = s.heap := ⟨_, rfl⟩
  obtain ⟨locs, eL⟩ : ∃ z : List Loc, z = [] := ⟨_, rfl⟩
  rw [← eH, ← eL] at h
  rw [← eH, ← eL]
  clear eH eL
  refine lv_aload_n hx hb dJ0_indexOf_7cf53_0 rfl (lv_at hl 0 rfl) ?_
  refine x_fi h (x_rVg (As := []) (rest := []) C (xj_recv h hE) (c_J0_isLatin1 l D cy ad Ls st q v len bs H.size) (xPreE_blind (xStr_ok q v len bs)) (fun U hU hW => ⟨rfl, x_preE (xStr_ok q v len bs) C h hE U hU hW⟩) rfl rfl rfl rfl tb444 tb445 tb446 tb56 tb447 (na := 0) rfl (by decide +kernel) (by decide) (by decide) ⟨Nat.zero_le _, Nat.zero_le _⟩ hl.1 rfl (Nat.le_of_ble_eq_true rfl) dJ0_indexOf_7cf53_1) (fun r u H locs hp h => ?_)
  obtain ⟨er, eu⟩ := hp; rw [eu] at h; refine x_topi er ?_; clear er eu r u
  refine x_ifb_eq (tgt := 23) hx hb dJ0_indexOf_7cf53_4 (by decide) (fun q => by cases q) (fun _ => ?_)
  refine lv_aload_n hx hb dJ0_indexOf_7cf53_7 rfl (lv_at hl 0 rfl) ?_
  refine xj_value C h hE dJ0_indexOf_7cf53_8 ?_
  refine lv_iload_n hx hb dJ0_indexOf_7cf53_11 rfl (lv_at hl 1 rfl) ?_
  refine lv_iload_n hx hb dJ0_indexOf_7cf53_12 rfl (lv_at hl 2 rfl) ?_
  refine lv_aload_n hx hb dJ0_indexOf_7cf53_13 rfl (lv_at hl 0 rfl) ?_
  refine x_fi h (x_rVg (As := []) (rest := [.int (nI 0), .int ch, .ref v]) C (xj_recv h hE) (c_J0_length l D cy ad Ls st q v len bs H.size) (xPreE_blind (xStr_ok q v len bs)) (fun U hU hW => ⟨rfl, x_preE (xStr_ok q v len bs) C h hE U hU hW⟩) rfl rfl rfl rfl tb450 tb451 tb452 tb56 tb453 (na := 0) rfl (by decide +kernel) (by decide) (by decide) ⟨Nat.zero_le _, Nat.zero_le _⟩ hl.1 rfl (Nat.le_of_ble_eq_true rfl) dJ0_indexOf_7cf53_14) (fun r u H locs hp h => ?_)
  obtain ⟨er, eu⟩ := hp; rw [eu] at h; refine x_topi er ?_; clear er eu r u
  refine x_fi h (x_rSg (rest := []) C (c_J1_indexOf l D cy ad Ls st v len bs hlen ch H.size) (xPreE_blind (xByt_ok v len bs)) (fun U hU hW => ⟨rfl, x_preE (xByt_ok v len bs) C h hE.2.2.2 U hU hW⟩) rfl rfl rfl tb458 tb459 tb57 tb460 (na := 4) rfl (by decide +kernel) (by decide) (by decide) ⟨Nat.zero_le _, Nat.zero_le _⟩ hl.1 rfl (Nat.le_of_ble_eq_true rfl) dJ0_indexOf_7cf53_17) (fun r u H locs hp h => ?_)
  obtain ⟨er, eu⟩ := hp; rw [eu] at h; clear eu u
  refine lv_goto (tgt := 36) hx hb dJ0_indexOf_7cf53_20 (by decide) ?_
  exact x_iret C hr hlocks h ⟨er, rfl⟩ dJ0_indexOf_7cf53_36

set_option maxHeartbeats 4000000 in
set_option maxRecDepth 100000 in
theorem c_J0_indexOf (l : Launch) (D : va_G) (cy : Nat → ClassId) (ad : Nat → Nat) (Ls : List Nat) (st : XS) (q v len : Nat) (bs : List Int32) (hlen : len < 2 ^ 31) (ch : Int32) : xMiE (xStr q v len bs) l yJ0_indexOf_0f7a4 cJ0_indexOf_0f7a4 2 (some .int) 3 D cy ad Ls st [.ref q, .int ch] (fun r u => (0 ≤ r ↔ inB bs len ch) ∧ u = st) := by
  intro sz
  refine x_ofE sz (by decide +kernel) (Nat.le_of_ble_eq_true rfl) ?_
  intro p e s m args below meth c ls hx hb hr hlocks C hsz hE h hl
  have hl : lv_has ls 2 [(0, .ref q), (1, .int ch)] := hl
  obtain ⟨H, eH⟩ : ∃ z, z = s.heap := ⟨_, rfl⟩
  obtain ⟨locs, eL⟩ : ∃ z : List Loc, z = [] := ⟨_, rfl⟩
  rw [← eH, ← eL] at h
  rw [← eH, ← eL]
  clear eH eL
  refine lv_aload_n hx hb dJ0_indexOf_0f7a4_0 rfl (lv_at hl 0 rfl) ?_
  refine lv_iload_n hx hb dJ0_indexOf_0f7a4_1 rfl (lv_at hl 1 rfl) ?_
  refine lv_iconst (v := nI 0) hx hb dJ0_indexOf_0f7a4_2 (by decide) ?_
  refine x_fi h (x_rVg (As := [.int ch, .int (nI 0)]) (rest := []) C (xj_recv h hE) (c_J0_indexOf2 l D cy ad Ls st q v len bs hlen ch H.size) (xPreE_blind (xStr_ok q v len bs)) (fun U hU hW => ⟨rfl, x_preE (xStr_ok q v len bs) C h hE U hU hW⟩) rfl rfl rfl rfl tb440 tb441 tb442 tb56 tb443 (na := 2) rfl (by decide +kernel) (by decide) (by decide) ⟨Nat.zero_le _, Nat.zero_le _⟩ hl.1 rfl (Nat.le_of_ble_eq_true rfl) dJ0_indexOf_0f7a4_3) (fun r u H locs hp h => ?_)
  obtain ⟨er, eu⟩ := hp; rw [eu] at h; clear eu u
  exact x_iret C hr hlocks h ⟨er, rfl⟩ dJ0_indexOf_0f7a4_6
