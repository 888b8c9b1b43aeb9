/-! ===== the reference: tellings, sums, taxes ===== -/
def oI : Option Nat → Int32 := fun o => match o with | none => -1 | some j => nI j
/-- the telling by which a day's rate is, among the first i -/
def mtO (pl kn fr : Nat → Int32) (p k d : Int32) : Nat → Option Nat
  | 0 => none
  | i + 1 => if pl i = p ∧ kn i = k ∧ ¬ d < fr i then (match mtO pl kn fr p k d i with | none => some i | some j => if fr i < fr j then some j else some i) else mtO pl kn fr p k d i
theorem mtO_lt (pl kn fr : Nat → Int32) (p k d : Int32) : ∀ i j, mtO pl kn fr p k d i = some j → j < i := by
  intro i
  induction i with
  | zero => intro j h; cases h
  | succ i ih =>
    intro j h
    rw [mtO] at h
    split at h
    · split at h
      · cases h; omega
      · next j' e => split at h
                     · cases h; have := ih _ e; omega
                     · cases h; omega
    · have := ih _ h; omega
abbrev mtS (st : XS) (n : Nat) (p k d : Int32) : Option Nat := mtO (ga st 48) (ga st 49) (ga st 51) p k d n
def mrS (st : XS) (o : Option Nat) : Int32 := match o with | none => nI 0 | some j => ga st 50 j
def maS (st : XS) (b k : Nat) : Int32 := ga st 65 (6 * b + k) * ga st 66 (6 * b + k)
def msS (st : XS) (b : Nat) : Nat → Int32
  | 0 => nI 0
  | k + 1 => msS st b k + maS st b k
def mxS (st : XS) (b : Nat) : Nat → Int32
  | 0 => ga st 68 b
  | k + 1 => mxS st b k + (if ga st 72 k = nI b then ga st 73 k else nI 0)

set_option maxHeartbeats 4000000 in
set_option maxRecDepth 100000 in
theorem c_X8_tellingOf (l : Launch) (D : va_G) (cy : Nat → ClassId) (ad : Nat → Nat) (Ls : List Nat) (st : XS) (hM : ∀ k, k ∈ LsM → k ∈ Ls) (n : Nat) (hn60 : n ≤ 60) (hn17 : gi st 17 30 = nI n) (p9 k9 d9 : Int32) : xMi l yX8_tellingOf cX8_tellingOf 7 (some .int) 0 D cy ad Ls st [.ref (ad 30), .int p9, .int k9, .int d9] (fun r u => r = oI (mtS st n p9 k9 d9) ∧ u = st) := by
  intro sz
  refine x_of sz (by decide +kernel) (Nat.le_of_ble_eq_true rfl) ?_
  intro p e s m args below meth c ls hx hb hr hlocks C hsz h hl
  have hl : lv_has ls 7 [(0, .ref (ad 30)), (1, .int p9), (2, .int k9), (3, .int d9)] := hl
  obtain ⟨H, eH⟩ : ∃ z, z = s.heap := ⟨_, rfl⟩
  obtain ⟨locs, eL⟩ : ∃ z : List Loc, z = [] := ⟨_, rfl⟩
  rw [← eH, ← eL] at h
  rw [← eH, ← eL]
  clear eH eL
  refine lv_iconst (v := (-1)) hx hb dX8_tellingOf_0 (by decide) ?_
  refine lv_istore (lv' := [(4, .int (-1)), (0, .ref (ad 30)), (1, .int p9), (2, .int k9), (3, .int d9)]) hx hb dX8_tellingOf_1 hl (by decide) rfl (fun ls hl => ?_)
  refine lv_iconst (v := nI 0) hx hb dX8_tellingOf_3 (by decide) ?_
  refine lv_istore (lv' := [(5, .int (nI 0)), (4, .int (-1)), (0, .ref (ad 30)), (1, .int p9), (2, .int k9), (3, .int d9)]) hx hb dX8_tellingOf_4 hl (by decide) rfl (fun ls hl => ?_)
  have L6 : ∀ (N6 : Nat) (t : Nat) (o : Option Nat) (ho : o = mtO (ga st 48) (ga st 49) (ga st 51) p9 k9 d9 t) (hob : ∀ j, o = some j → j < t) (ht : t ≤ n) (hN : n - t < N6) (H : Heap) (locs : List Loc) (ls : Array Slot), xH D cy ad Ls (XA ad Ls sz) s st H locs → lv_has ls 7 [(0, .ref (ad 30)), (1, .int p9), (2, .int k9), (3, .int d9), (4, .int (oI o)), (5, .int (nI t))] → W p l e (xR 0) s m args below meth c H locs 0 0 (MQ below (va_Qi (fun r u => r = oI (mtS st n p9 k9 d9) ∧ u = st) (fun u => xPost D cy ad Ls (XA ad Ls sz) u) (XA ad Ls sz)) args s 0 0 (XA ad Ls sz)) (F0 m 6 ls []) := by
    intro N6
    induction N6 with
    | zero => intro t o ho hob ht hN; omega
    | succ N6 ih6 =>
      intro t o ho hob ht hN H locs ls h hl
      rcases o with _ | j
      · replace hl : lv_has ls 7 [(0, .ref (ad 30)), (1, .int p9), (2, .int k9), (3, .int d9), (4, .int (-1)), (5, .int (nI t))] := hl
        refine lv_iload hx hb dX8_tellingOf_6 (lv_at hl 5 rfl) ?_
        refine lv_aload_n hx hb dX8_tellingOf_8 rfl (lv_at hl 0 rfl) ?_
        refine gf_X8_193 C h (hM 30 (by decide)) rfl dX8_tellingOf_9 ?_
        refine x_topi hn17 ?_
        refine x_icmpN_ge (tgt := 98) hx hb dX8_tellingOf_12 (by decide) (by omega) (by omega) (fun c12 => ?_) (fun c12 => ?_)
        · refine lv_iload hx hb dX8_tellingOf_98 (lv_at hl 4 rfl) ?_
          exact x_iret C hr hlocks h ⟨by rw [show n = t by omega]; show _ = oI (mtO (ga st 48) (ga st 49) (ga st 51) p9 k9 d9 t); rw [← ho]; rfl, rfl⟩ dX8_tellingOf_100
        · refine lv_aload_n hx hb dX8_tellingOf_15 rfl (lv_at hl 0 rfl) ?_
          refine gf_X8_38 C h (hM 30 (by decide)) rfl (k2 := 48) rfl dX8_tellingOf_16 ?_
          refine lv_iload hx hb dX8_tellingOf_19 (lv_at hl 5 rfl) ?_
          refine x_ald C h (hM 48 (by decide)) (n := 60) rfl t (by omega) (by decide) rfl dX8_tellingOf_21 ?_
          refine lv_iload_n hx hb dX8_tellingOf_22 rfl (lv_at hl 1 rfl) ?_
          refine lv_icmp_ne (tgt := 52) hx hb dX8_tellingOf_23 (by decide) (fun c23 => ?_) (fun c23 => ?_)
          · refine lv_iconst (v := nI 0) hx hb dX8_tellingOf_52 (by decide) ?_
            refine lv_istore (lv' := [(6, .int (nI 0)), (0, .ref (ad 30)), (1, .int p9), (2, .int k9), (3, .int d9), (4, .int (-1)), (5, .int (nI t))]) hx hb dX8_tellingOf_53 hl (by decide) rfl (fun ls hl => ?_)
            refine lv_iload hx hb dX8_tellingOf_55 (lv_at hl 0 rfl) ?_
            refine x_ifN_eq (tgt := 88) hx hb dX8_tellingOf_57 (by decide) (by decide) (fun _ => ?_) (fun z9 => absurd z9 (by decide))
            refine lv_iload hx hb dX8_tellingOf_88 (lv_at hl 5 rfl) ?_
            refine lv_istore (lv' := [(4, .int (-1)), (6, .int (nI 0)), (0, .ref (ad 30)), (1, .int p9), (2, .int k9), (3, .int d9), (5, .int (nI t))]) hx hb dX8_tellingOf_90 hl (by decide) rfl (fun ls hl => ?_)
            refine lv_iinc (v := nI (t + 1)) (lv' := [(5, .int (nI (t + 1))), (4, .int (-1)), (6, .int (nI 0)), (0, .ref (ad 30)), (1, .int p9), (2, .int k9), (3, .int d9)]) hx hb dX8_tellingOf_92 hl (k := 6) rfl (nI_add _ _) (by decide) rfl (fun ls hl => ?_)
            refine lv_goto (tgt := 6) hx hb dX8_tellingOf_95 (by decide) ?_
            exact ih6 (t + 1) (none) (show mtO (ga st 48) (ga st 49) (ga st 51) p9 k9 d9 (t + 1) = none from by rw [mtO, if_neg (fun q => c23 q.1), ← ho]).symm (fun j9 h9 => by cases h9 <;> omega) (by omega) (by omega) H locs ls h (lv_sub hl [3, 4, 5, 6, 1, 0] rfl)
          · refine lv_aload_n hx hb dX8_tellingOf_26 rfl (lv_at hl 0 rfl) ?_
            refine gf_X8_41 C h (hM 30 (by decide)) rfl (k2 := 49) rfl dX8_tellingOf_27 ?_
            refine lv_iload hx hb dX8_tellingOf_30 (lv_at hl 5 rfl) ?_
            refine x_ald C h (hM 49 (by decide)) (n := 60) rfl t (by omega) (by decide) rfl dX8_tellingOf_32 ?_
            refine lv_iload_n hx hb dX8_tellingOf_33 rfl (lv_at hl 2 rfl) ?_
            refine lv_icmp_ne (tgt := 52) hx hb dX8_tellingOf_34 (by decide) (fun c34 => ?_) (fun c34 => ?_)
            · refine lv_iconst (v := nI 0) hx hb dX8_tellingOf_52 (by decide) ?_
              refine lv_istore (lv' := [(6, .int (nI 0)), (0, .ref (ad 30)), (1, .int p9), (2, .int k9), (3, .int d9), (4, .int (-1)), (5, .int (nI t))]) hx hb dX8_tellingOf_53 hl (by decide) rfl (fun ls hl => ?_)
              refine lv_iload hx hb dX8_tellingOf_55 (lv_at hl 0 rfl) ?_
              refine x_ifN_eq (tgt := 88) hx hb dX8_tellingOf_57 (by decide) (by decide) (fun _ => ?_) (fun z9 => absurd z9 (by decide))
              refine lv_iload hx hb dX8_tellingOf_88 (lv_at hl 5 rfl) ?_
              refine lv_istore (lv' := [(4, .int (-1)), (6, .int (nI 0)), (0, .ref (ad 30)), (1, .int p9), (2, .int k9), (3, .int d9), (5, .int (nI t))]) hx hb dX8_tellingOf_90 hl (by decide) rfl (fun ls hl => ?_)
              refine lv_iinc (v := nI (t + 1)) (lv' := [(5, .int (nI (t + 1))), (4, .int (-1)), (6, .int (nI 0)), (0, .ref (ad 30)), (1, .int p9), (2, .int k9), (3, .int d9)]) hx hb dX8_tellingOf_92 hl (k := 6) rfl (nI_add _ _) (by decide) rfl (fun ls hl => ?_)
              refine lv_goto (tgt := 6) hx hb dX8_tellingOf_95 (by decide) ?_
              exact ih6 (t + 1) (none) (show mtO (ga st 48) (ga st 49) (ga st 51) p9 k9 d9 (t + 1) = none from by rw [mtO, if_neg (fun q => c34 q.2.1), ← ho]).symm (fun j9 h9 => by cases h9 <;> omega) (by omega) (by omega) H locs ls h (lv_sub hl [3, 4, 5, 6, 1, 0] rfl)
            · refine lv_aload_n hx hb dX8_tellingOf_37 rfl (lv_at hl 0 rfl) ?_
              refine gf_X8_47 C h (hM 30 (by decide)) rfl (k2 := 51) rfl dX8_tellingOf_38 ?_
              refine lv_iload hx hb dX8_tellingOf_41 (lv_at hl 5 rfl) ?_
              refine x_ald C h (hM 51 (by decide)) (n := 60) rfl t (by omega) (by decide) rfl dX8_tellingOf_43 ?_
              refine lv_iload_n hx hb dX8_tellingOf_44 rfl (lv_at hl 3 rfl) ?_
              refine lv_icmp_gt (tgt := 52) hx hb dX8_tellingOf_45 (by decide) (fun c45 => ?_) (fun c45 => ?_)
              · refine lv_iconst (v := nI 0) hx hb dX8_tellingOf_52 (by decide) ?_
                refine lv_istore (lv' := [(6, .int (nI 0)), (0, .ref (ad 30)), (1, .int p9), (2, .int k9), (3, .int d9), (4, .int (-1)), (5, .int (nI t))]) hx hb dX8_tellingOf_53 hl (by decide) rfl (fun ls hl => ?_)
                refine lv_iload hx hb dX8_tellingOf_55 (lv_at hl 0 rfl) ?_
                refine x_ifN_eq (tgt := 88) hx hb dX8_tellingOf_57 (by decide) (by decide) (fun _ => ?_) (fun z9 => absurd z9 (by decide))
                refine lv_iload hx hb dX8_tellingOf_88 (lv_at hl 5 rfl) ?_
                refine lv_istore (lv' := [(4, .int (-1)), (6, .int (nI 0)), (0, .ref (ad 30)), (1, .int p9), (2, .int k9), (3, .int d9), (5, .int (nI t))]) hx hb dX8_tellingOf_90 hl (by decide) rfl (fun ls hl => ?_)
                refine lv_iinc (v := nI (t + 1)) (lv' := [(5, .int (nI (t + 1))), (4, .int (-1)), (6, .int (nI 0)), (0, .ref (ad 30)), (1, .int p9), (2, .int k9), (3, .int d9)]) hx hb dX8_tellingOf_92 hl (k := 6) rfl (nI_add _ _) (by decide) rfl (fun ls hl => ?_)
                refine lv_goto (tgt := 6) hx hb dX8_tellingOf_95 (by decide) ?_
                exact ih6 (t + 1) (none) (show mtO (ga st 48) (ga st 49) (ga st 51) p9 k9 d9 (t + 1) = none from by rw [mtO, if_neg (fun q => q.2.2 c45), ← ho]).symm (fun j9 h9 => by cases h9 <;> omega) (by omega) (by omega) H locs ls h (lv_sub hl [3, 4, 5, 6, 1, 0] rfl)
              · refine lv_iconst (v := nI 1) hx hb dX8_tellingOf_48 (by decide) ?_
                refine lv_goto (tgt := 53) hx hb dX8_tellingOf_49 (by decide) ?_
                refine lv_istore (lv' := [(6, .int (nI 1)), (0, .ref (ad 30)), (1, .int p9), (2, .int k9), (3, .int d9), (4, .int (-1)), (5, .int (nI t))]) hx hb dX8_tellingOf_53 hl (by decide) rfl (fun ls hl => ?_)
                refine lv_iload hx hb dX8_tellingOf_55 (lv_at hl 0 rfl) ?_
                refine x_ifN_eq (tgt := 88) hx hb dX8_tellingOf_57 (by decide) (by decide) (fun z9 => absurd z9 (by decide)) (fun _ => ?_)
                refine lv_iload hx hb dX8_tellingOf_60 (lv_at hl 5 rfl) ?_
                refine lv_iconst (v := (-1)) hx hb dX8_tellingOf_62 (by decide) ?_
                refine lv_icmp_eq (tgt := 83) hx hb dX8_tellingOf_63 (by decide) (fun _ => ?_) (fun q => absurd rfl q)
                refine lv_iload hx hb dX8_tellingOf_83 (lv_at hl 6 rfl) ?_
                refine lv_goto (tgt := 90) hx hb dX8_tellingOf_85 (by decide) ?_
                refine lv_istore (lv' := [(4, .int (nI t)), (6, .int (nI 1)), (0, .ref (ad 30)), (1, .int p9), (2, .int k9), (3, .int d9), (5, .int (nI t))]) hx hb dX8_tellingOf_90 hl (by decide) rfl (fun ls hl => ?_)
                refine lv_iinc (v := nI (t + 1)) (lv' := [(5, .int (nI (t + 1))), (4, .int (nI t)), (6, .int (nI 1)), (0, .ref (ad 30)), (1, .int p9), (2, .int k9), (3, .int d9)]) hx hb dX8_tellingOf_92 hl (k := 6) rfl (nI_add _ _) (by decide) rfl (fun ls hl => ?_)
                refine lv_goto (tgt := 6) hx hb dX8_tellingOf_95 (by decide) ?_
                exact ih6 (t + 1) (some t) (show mtO (ga st 48) (ga st 49) (ga st 51) p9 k9 d9 (t + 1) = some t from by rw [mtO, if_pos ⟨c23, c34, c45⟩, ← ho]).symm (fun j9 h9 => by cases h9 <;> omega) (by omega) (by omega) H locs ls h (lv_sub hl [3, 4, 5, 6, 1, 0] rfl)
      · replace hl : lv_has ls 7 [(0, .ref (ad 30)), (1, .int p9), (2, .int k9), (3, .int d9), (4, .int (nI j)), (5, .int (nI t))] := hl
        have hjt : j < t := hob j rfl
        refine lv_iload hx hb dX8_tellingOf_6 (lv_at hl 5 rfl) ?_
        refine lv_aload_n hx hb dX8_tellingOf_8 rfl (lv_at hl 0 rfl) ?_
        refine gf_X8_193 C h (hM 30 (by decide)) rfl dX8_tellingOf_9 ?_
        refine x_topi hn17 ?_
        refine x_icmpN_ge (tgt := 98) hx hb dX8_tellingOf_12 (by decide) (by omega) (by omega) (fun c12 => ?_) (fun c12 => ?_)
        · refine lv_iload hx hb dX8_tellingOf_98 (lv_at hl 4 rfl) ?_
          exact x_iret C hr hlocks h ⟨by rw [show n = t by omega]; show _ = oI (mtO (ga st 48) (ga st 49) (ga st 51) p9 k9 d9 t); rw [← ho]; rfl, rfl⟩ dX8_tellingOf_100
        · refine lv_aload_n hx hb dX8_tellingOf_15 rfl (lv_at hl 0 rfl) ?_
          refine gf_X8_38 C h (hM 30 (by decide)) rfl (k2 := 48) rfl dX8_tellingOf_16 ?_
          refine lv_iload hx hb dX8_tellingOf_19 (lv_at hl 5 rfl) ?_
          refine x_ald C h (hM 48 (by decide)) (n := 60) rfl t (by omega) (by decide) rfl dX8_tellingOf_21 ?_
          refine lv_iload_n hx hb dX8_tellingOf_22 rfl (lv_at hl 1 rfl) ?_
          refine lv_icmp_ne (tgt := 52) hx hb dX8_tellingOf_23 (by decide) (fun c23 => ?_) (fun c23 => ?_)
          · refine lv_iconst (v := nI 0) hx hb dX8_tellingOf_52 (by decide) ?_
            refine lv_istore (lv' := [(6, .int (nI 0)), (0, .ref (ad 30)), (1, .int p9), (2, .int k9), (3, .int d9), (4, .int (nI j)), (5, .int (nI t))]) hx hb dX8_tellingOf_53 hl (by decide) rfl (fun ls hl => ?_)
            refine lv_iload hx hb dX8_tellingOf_55 (lv_at hl 0 rfl) ?_
            refine x_ifN_eq (tgt := 88) hx hb dX8_tellingOf_57 (by decide) (by decide) (fun _ => ?_) (fun z9 => absurd z9 (by decide))
            refine lv_iload hx hb dX8_tellingOf_88 (lv_at hl 5 rfl) ?_
            refine lv_istore (lv' := [(4, .int (nI j)), (6, .int (nI 0)), (0, .ref (ad 30)), (1, .int p9), (2, .int k9), (3, .int d9), (5, .int (nI t))]) hx hb dX8_tellingOf_90 hl (by decide) rfl (fun ls hl => ?_)
            refine lv_iinc (v := nI (t + 1)) (lv' := [(5, .int (nI (t + 1))), (4, .int (nI j)), (6, .int (nI 0)), (0, .ref (ad 30)), (1, .int p9), (2, .int k9), (3, .int d9)]) hx hb dX8_tellingOf_92 hl (k := 6) rfl (nI_add _ _) (by decide) rfl (fun ls hl => ?_)
            refine lv_goto (tgt := 6) hx hb dX8_tellingOf_95 (by decide) ?_
            exact ih6 (t + 1) (some j) (show mtO (ga st 48) (ga st 49) (ga st 51) p9 k9 d9 (t + 1) = some j from by rw [mtO, if_neg (fun q => c23 q.1), ← ho]).symm (fun j9 h9 => by cases h9 <;> omega) (by omega) (by omega) H locs ls h (lv_sub hl [3, 4, 5, 6, 1, 0] rfl)
          · refine lv_aload_n hx hb dX8_tellingOf_26 rfl (lv_at hl 0 rfl) ?_
            refine gf_X8_41 C h (hM 30 (by decide)) rfl (k2 := 49) rfl dX8_tellingOf_27 ?_
            refine lv_iload hx hb dX8_tellingOf_30 (lv_at hl 5 rfl) ?_
            refine x_ald C h (hM 49 (by decide)) (n := 60) rfl t (by omega) (by decide) rfl dX8_tellingOf_32 ?_
            refine lv_iload_n hx hb dX8_tellingOf_33 rfl (lv_at hl 2 rfl) ?_
            refine lv_icmp_ne (tgt := 52) hx hb dX8_tellingOf_34 (by decide) (fun c34 => ?_) (fun c34 => ?_)
            · refine lv_iconst (v := nI 0) hx hb dX8_tellingOf_52 (by decide) ?_
              refine lv_istore (lv' := [(6, .int (nI 0)), (0, .ref (ad 30)), (1, .int p9), (2, .int k9), (3, .int d9), (4, .int (nI j)), (5, .int (nI t))]) hx hb dX8_tellingOf_53 hl (by decide) rfl (fun ls hl => ?_)
              refine lv_iload hx hb dX8_tellingOf_55 (lv_at hl 0 rfl) ?_
              refine x_ifN_eq (tgt := 88) hx hb dX8_tellingOf_57 (by decide) (by decide) (fun _ => ?_) (fun z9 => absurd z9 (by decide))
              refine lv_iload hx hb dX8_tellingOf_88 (lv_at hl 5 rfl) ?_
              refine lv_istore (lv' := [(4, .int (nI j)), (6, .int (nI 0)), (0, .ref (ad 30)), (1, .int p9), (2, .int k9), (3, .int d9), (5, .int (nI t))]) hx hb dX8_tellingOf_90 hl (by decide) rfl (fun ls hl => ?_)
              refine lv_iinc (v := nI (t + 1)) (lv' := [(5, .int (nI (t + 1))), (4, .int (nI j)), (6, .int (nI 0)), (0, .ref (ad 30)), (1, .int p9), (2, .int k9), (3, .int d9)]) hx hb dX8_tellingOf_92 hl (k := 6) rfl (nI_add _ _) (by decide) rfl (fun ls hl => ?_)
              refine lv_goto (tgt := 6) hx hb dX8_tellingOf_95 (by decide) ?_
              exact ih6 (t + 1) (some j) (show mtO (ga st 48) (ga st 49) (ga st 51) p9 k9 d9 (t + 1) = some j from by rw [mtO, if_neg (fun q => c34 q.2.1), ← ho]).symm (fun j9 h9 => by cases h9 <;> omega) (by omega) (by omega) H locs ls h (lv_sub hl [3, 4, 5, 6, 1, 0] rfl)
            · refine lv_aload_n hx hb dX8_tellingOf_37 rfl (lv_at hl 0 rfl) ?_
              refine gf_X8_47 C h (hM 30 (by decide)) rfl (k2 := 51) rfl dX8_tellingOf_38 ?_
              refine lv_iload hx hb dX8_tellingOf_41 (lv_at hl 5 rfl) ?_
              refine x_ald C h (hM 51 (by decide)) (n := 60) rfl t (by omega) (by decide) rfl dX8_tellingOf_43 ?_
              refine lv_iload_n hx hb dX8_tellingOf_44 rfl (lv_at hl 3 rfl) ?_
              refine lv_icmp_gt (tgt := 52) hx hb dX8_tellingOf_45 (by decide) (fun c45 => ?_) (fun c45 => ?_)
              · refine lv_iconst (v := nI 0) hx hb dX8_tellingOf_52 (by decide) ?_
                refine lv_istore (lv' := [(6, .int (nI 0)), (0, .ref (ad 30)), (1, .int p9), (2, .int k9), (3, .int d9), (4, .int (nI j)), (5, .int (nI t))]) hx hb dX8_tellingOf_53 hl (by decide) rfl (fun ls hl => ?_)
                refine lv_iload hx hb dX8_tellingOf_55 (lv_at hl 0 rfl) ?_
                refine x_ifN_eq (tgt := 88) hx hb dX8_tellingOf_57 (by decide) (by decide) (fun _ => ?_) (fun z9 => absurd z9 (by decide))
                refine lv_iload hx hb dX8_tellingOf_88 (lv_at hl 5 rfl) ?_
                refine lv_istore (lv' := [(4, .int (nI j)), (6, .int (nI 0)), (0, .ref (ad 30)), (1, .int p9), (2, .int k9), (3, .int d9), (5, .int (nI t))]) hx hb dX8_tellingOf_90 hl (by decide) rfl (fun ls hl => ?_)
                refine lv_iinc (v := nI (t + 1)) (lv' := [(5, .int (nI (t + 1))), (4, .int (nI j)), (6, .int (nI 0)), (0, .ref (ad 30)), (1, .int p9), (2, .int k9), (3, .int d9)]) hx hb dX8_tellingOf_92 hl (k := 6) rfl (nI_add _ _) (by decide) rfl (fun ls hl => ?_)
                refine lv_goto (tgt := 6) hx hb dX8_tellingOf_95 (by decide) ?_
                exact ih6 (t + 1) (some j) (show mtO (ga st 48) (ga st 49) (ga st 51) p9 k9 d9 (t + 1) = some j from by rw [mtO, if_neg (fun q => q.2.2 c45), ← ho]).symm (fun j9 h9 => by cases h9 <;> omega) (by omega) (by omega) H locs ls h (lv_sub hl [3, 4, 5, 6, 1, 0] rfl)
              · refine lv_iconst (v := nI 1) hx hb dX8_tellingOf_48 (by decide) ?_
                refine lv_goto (tgt := 53) hx hb dX8_tellingOf_49 (by decide) ?_
                refine lv_istore (lv' := [(6, .int (nI 1)), (0, .ref (ad 30)), (1, .int p9), (2, .int k9), (3, .int d9), (4, .int (nI j)), (5, .int (nI t))]) hx hb dX8_tellingOf_53 hl (by decide) rfl (fun ls hl => ?_)
                refine lv_iload hx hb dX8_tellingOf_55 (lv_at hl 0 rfl) ?_
                refine x_ifN_eq (tgt := 88) hx hb dX8_tellingOf_57 (by decide) (by decide) (fun z9 => absurd z9 (by decide)) (fun _ => ?_)
                refine lv_iload hx hb dX8_tellingOf_60 (lv_at hl 5 rfl) ?_
                refine lv_iconst (v := (-1)) hx hb dX8_tellingOf_62 (by decide) ?_
                refine lv_icmp_eq (tgt := 83) hx hb dX8_tellingOf_63 (by decide) (fun q => absurd q (nI_ne1 (by omega))) (fun _ => ?_)
                refine lv_aload_n hx hb dX8_tellingOf_66 rfl (lv_at hl 1 rfl) ?_
                refine gf_X8_47 C h (hM 30 (by decide)) rfl (k2 := 51) rfl dX8_tellingOf_67 ?_
                refine lv_iload hx hb dX8_tellingOf_70 (lv_at hl 6 rfl) ?_
                refine x_ald C h (hM 51 (by decide)) (n := 60) rfl t (by omega) (by decide) rfl dX8_tellingOf_72 ?_
                refine lv_aload_n hx hb dX8_tellingOf_73 rfl (lv_at hl 1 rfl) ?_
                refine gf_X8_47 C h (hM 30 (by decide)) rfl (k2 := 51) rfl dX8_tellingOf_74 ?_
                refine lv_iload hx hb dX8_tellingOf_77 (lv_at hl 5 rfl) ?_
                refine x_ald C h (hM 51 (by decide)) (n := 60) rfl j (by omega) (by decide) rfl dX8_tellingOf_79 ?_
                refine lv_icmp_lt (tgt := 88) hx hb dX8_tellingOf_80 (by decide) (fun c80 => ?_) (fun c80 => ?_)
                · refine lv_iload hx hb dX8_tellingOf_88 (lv_at hl 5 rfl) ?_
                  refine lv_istore (lv' := [(4, .int (nI j)), (6, .int (nI 1)), (0, .ref (ad 30)), (1, .int p9), (2, .int k9), (3, .int d9), (5, .int (nI t))]) hx hb dX8_tellingOf_90 hl (by decide) rfl (fun ls hl => ?_)
                  refine lv_iinc (v := nI (t + 1)) (lv' := [(5, .int (nI (t + 1))), (4, .int (nI j)), (6, .int (nI 1)), (0, .ref (ad 30)), (1, .int p9), (2, .int k9), (3, .int d9)]) hx hb dX8_tellingOf_92 hl (k := 6) rfl (nI_add _ _) (by decide) rfl (fun ls hl => ?_)
                  refine lv_goto (tgt := 6) hx hb dX8_tellingOf_95 (by decide) ?_
                  exact ih6 (t + 1) (some j) (show mtO (ga st 48) (ga st 49) (ga st 51) p9 k9 d9 (t + 1) = some j from by rw [mtO, if_pos ⟨c23, c34, c45⟩, ← ho]; exact (if_pos c80)).symm (fun j9 h9 => by cases h9 <;> omega) (by omega) (by omega) H locs ls h (lv_sub hl [3, 4, 5, 6, 1, 0] rfl)
                · refine lv_iload hx hb dX8_tellingOf_83 (lv_at hl 6 rfl) ?_
                  refine lv_goto (tgt := 90) hx hb dX8_tellingOf_85 (by decide) ?_
                  refine lv_istore (lv' := [(4, .int (nI t)), (6, .int (nI 1)), (0, .ref (ad 30)), (1, .int p9), (2, .int k9), (3, .int d9), (5, .int (nI t))]) hx hb dX8_tellingOf_90 hl (by decide) rfl (fun ls hl => ?_)
                  refine lv_iinc (v := nI (t + 1)) (lv' := [(5, .int (nI (t + 1))), (4, .int (nI t)), (6, .int (nI 1)), (0, .ref (ad 30)), (1, .int p9), (2, .int k9), (3, .int d9)]) hx hb dX8_tellingOf_92 hl (k := 6) rfl (nI_add _ _) (by decide) rfl (fun ls hl => ?_)
                  refine lv_goto (tgt := 6) hx hb dX8_tellingOf_95 (by decide) ?_
                  exact ih6 (t + 1) (some t) (show mtO (ga st 48) (ga st 49) (ga st 51) p9 k9 d9 (t + 1) = some t from by rw [mtO, if_pos ⟨c23, c34, c45⟩, ← ho]; exact (if_neg c80)).symm (fun j9 h9 => by cases h9 <;> omega) (by omega) (by omega) H locs ls h (lv_sub hl [3, 4, 5, 6, 1, 0] rfl)
  exact L6 (n + 1) 0 none rfl (fun j h => by cases h) (by omega) (by omega) H locs ls h (lv_sub hl [2, 3, 4, 5, 1, 0] rfl)

set_option maxHeartbeats 4000000 in
set_option maxRecDepth 100000 in
theorem c_X8_rateOf (l : Launch) (D : va_G) (cy : Nat → ClassId) (ad : Nat → Nat) (Ls : List Nat) (st : XS) (hM : ∀ k, k ∈ LsM → k ∈ Ls) (o : Option Nat) (ho : ∀ j, o = some j → j < 60) : xMi l yX8_rateOf cX8_rateOf 2 (some .int) 0 D cy ad Ls st [.ref (ad 30), .int (oI o)] (fun r u => r = mrS st o ∧ u = st) := by
  intro sz
  refine x_of sz (by decide +kernel) (Nat.le_of_ble_eq_true rfl) ?_
  intro p e s m args below meth c ls hx hb hr hlocks C hsz h hl
  have hl : lv_has ls 2 [(0, .ref (ad 30)), (1, .int (oI o))] := hl
  obtain ⟨H, eH⟩ : ∃ z, z = s.heap := ⟨_, rfl⟩
  obtain ⟨locs, eL⟩ : ∃ z : List Loc, z = [] := ⟨_, rfl⟩
  rw [← eH, ← eL] at h
  rw [← eH, ← eL]
  clear eH eL
  refine lv_iload_n hx hb dX8_rateOf_0 rfl (lv_at hl 1 rfl) ?_
  refine lv_iconst (v := (-1)) hx hb dX8_rateOf_1 (by decide) ?_
  rcases o with _ | j
  · refine lv_icmp_ne (tgt := 9) hx hb dX8_rateOf_2 (by decide) (fun q => absurd rfl q) (fun _ => ?_)
    refine lv_iconst (v := nI 0) hx hb dX8_rateOf_5 (by decide) ?_
    refine lv_goto (tgt := 15) hx hb dX8_rateOf_6 (by decide) ?_
    exact x_iret C hr hlocks h ⟨rfl, rfl⟩ dX8_rateOf_15
  · have hj60 : j < 60 := ho j rfl
    refine lv_icmp_ne (tgt := 9) hx hb dX8_rateOf_2 (by decide) (fun _ => ?_) (fun q => absurd q (nI_ne1 (by omega)))
    replace hl : lv_has ls 2 [(0, .ref (ad 30)), (1, .int (nI j))] := hl
    refine lv_aload_n hx hb dX8_rateOf_9 rfl (lv_at hl 0 rfl) ?_
    refine gf_X8_44 C h (hM 30 (by decide)) rfl (k2 := 50) rfl dX8_rateOf_10 ?_
    refine lv_iload_n hx hb dX8_rateOf_13 rfl (lv_at hl 1 rfl) ?_
    refine x_ald C h (hM 50 (by decide)) (n := 60) rfl j (by omega) (by decide) rfl dX8_rateOf_14 ?_
    exact x_iret C hr hlocks h ⟨rfl, rfl⟩ dX8_rateOf_15

set_option maxHeartbeats 4000000 in
set_option maxRecDepth 100000 in
theorem c_X8_amount (l : Launch) (D : va_G) (cy : Nat → ClassId) (ad : Nat → Nat) (Ls : List Nat) (st : XS) (hM : ∀ k, k ∈ LsM → k ∈ Ls) (b k : Nat) (hb30 : b < 30) (hk6 : k < 6) : xMi l yX8_amount cX8_amount 3 (some .int) 0 D cy ad Ls st [.ref (ad 30), .int (nI b), .int (nI k)] (fun r u => r = maS st b k ∧ u = st) := by
  intro sz
  refine x_of sz (by decide +kernel) (Nat.le_of_ble_eq_true rfl) ?_
  intro p e s m args below meth c ls hx hb hr hlocks C hsz h hl
  have hl : lv_has ls 3 [(0, .ref (ad 30)), (1, .int (nI b)), (2, .int (nI k))] := hl
  obtain ⟨H, eH⟩ : ∃ z, z = s.heap := ⟨_, rfl⟩
  obtain ⟨locs, eL⟩ : ∃ z : List Loc, z = [] := ⟨_, rfl⟩
  rw [← eH, ← eL] at h
  rw [← eH, ← eL]
  clear eH eL
  refine lv_aload_n hx hb dX8_amount_0 rfl (lv_at hl 0 rfl) ?_
  refine gf_X8_83 C h (hM 30 (by decide)) rfl (k2 := 65) rfl dX8_amount_1 ?_
  refine lv_bipush (v := nI 6) hx hb dX8_amount_4 (by decide) ?_
  refine lv_iload_n hx hb dX8_amount_6 rfl (lv_at hl 1 rfl) ?_
  refine x_mulN hx hb dX8_amount_7 ?_
  refine lv_iload_n hx hb dX8_amount_8 rfl (lv_at hl 2 rfl) ?_
  refine x_addN hx hb dX8_amount_9 ?_
  refine x_ald C h (hM 65 (by decide)) (n := 180) rfl ((6 * b) + k) (by omega) (by decide) rfl dX8_amount_10 ?_
  refine lv_aload_n hx hb dX8_amount_11 rfl (lv_at hl 0 rfl) ?_
  refine gf_X8_86 C h (hM 30 (by decide)) rfl (k2 := 66) rfl dX8_amount_12 ?_
  refine lv_bipush (v := nI 6) hx hb dX8_amount_15 (by decide) ?_
  refine lv_iload_n hx hb dX8_amount_17 rfl (lv_at hl 1 rfl) ?_
  refine x_mulN hx hb dX8_amount_18 ?_
  refine lv_iload_n hx hb dX8_amount_19 rfl (lv_at hl 2 rfl) ?_
  refine x_addN hx hb dX8_amount_20 ?_
  refine x_ald C h (hM 66 (by decide)) (n := 180) rfl ((6 * b) + k) (by omega) (by decide) rfl dX8_amount_21 ?_
  refine lv_imul hx hb dX8_amount_22 ?_
  exact x_iret C hr hlocks h ⟨rfl, rfl⟩ dX8_amount_23

set_option maxHeartbeats 4000000 in
set_option maxRecDepth 100000 in
theorem c_X8_sumOf (l : Launch) (D : va_G) (cy : Nat → ClassId) (ad : Nat → Nat) (Ls : List Nat) (st : XS) (hM : ∀ k, k ∈ LsM → k ∈ Ls) (b n : Nat) (hb30 : b < 30) (hn6 : n ≤ 6) (hmany : ga st 61 b = nI n) : xMi l yX8_sumOf cX8_sumOf 4 (some .int) 1 D cy ad Ls st [.ref (ad 30), .int (nI b)] (fun r u => r = msS st b n ∧ u = st) := by
  intro sz
  refine x_of sz (by decide +kernel) (Nat.le_of_ble_eq_true rfl) ?_
  intro p e s m args below meth c ls hx hb hr hlocks C hsz h hl
  have hl : lv_has ls 4 [(0, .ref (ad 30)), (1, .int (nI b))] := hl
  obtain ⟨H, eH⟩ : ∃ z, z = s.heap := ⟨_, rfl⟩
  obtain ⟨locs, eL⟩ : ∃ z : List Loc, z = [] := ⟨_, rfl⟩
  rw [← eH, ← eL] at h
  rw [← eH, ← eL]
  clear eH eL
  refine lv_iconst (v := nI 0) hx hb dX8_sumOf_0 (by decide) ?_
  refine lv_istore_n (lv' := [(2, .int (nI 0)), (0, .ref (ad 30)), (1, .int (nI b))]) hx hb dX8_sumOf_1 rfl hl (by decide) rfl (fun ls hl => ?_)
  refine lv_iconst (v := nI 0) hx hb dX8_sumOf_2 (by decide) ?_
  refine lv_istore_n (lv' := [(3, .int (nI 0)), (2, .int (nI 0)), (0, .ref (ad 30)), (1, .int (nI b))]) hx hb dX8_sumOf_3 rfl hl (by decide) rfl (fun ls hl => ?_)
  have L4 : ∀ (N4 : Nat) (k : Nat) (hk : k ≤ n) (hN : n - k < N4) (H : Heap) (locs : List Loc) (ls : Array Slot), xH D cy ad Ls (XA ad Ls sz) s st H locs → lv_has ls 4 [(0, .ref (ad 30)), (1, .int (nI b)), (2, .int (msS st b k)), (3, .int (nI k))] → W p l e (xR 1) s m args below meth c H locs 0 0 (MQ below (va_Qi (fun r u => r = msS st b n ∧ u = st) (fun u => xPost D cy ad Ls (XA ad Ls sz) u) (XA ad Ls sz)) args s 0 0 (XA ad Ls sz)) (F0 m 4 ls []) := by
    intro N4
    induction N4 with
    | zero => intro k hk hN; omega
    | succ N4 ih4 =>
      intro k hk hN H locs ls h hl
      refine lv_iload_n hx hb dX8_sumOf_4 rfl (lv_at hl 3 rfl) ?_
      refine lv_aload_n hx hb dX8_sumOf_5 rfl (lv_at hl 0 rfl) ?_
      refine gf_X8_71 C h (hM 30 (by decide)) rfl (k2 := 61) rfl dX8_sumOf_6 ?_
      refine lv_iload_n hx hb dX8_sumOf_9 rfl (lv_at hl 1 rfl) ?_
      refine x_ald C h (hM 61 (by decide)) (n := 30) rfl b (by omega) (by decide) rfl dX8_sumOf_10 ?_
      refine x_topi (y := nI n) hmany ?_
      refine x_icmpN_ge (tgt := 29) hx hb dX8_sumOf_11 (by decide) (by omega) (by omega) (fun c11 => ?_) (fun c11 => ?_)
      · refine lv_iload_n hx hb dX8_sumOf_29 rfl (lv_at hl 2 rfl) ?_
        exact x_iret C hr hlocks h ⟨by rw [show n = k by omega], rfl⟩ dX8_sumOf_30
      · refine lv_iload_n hx hb dX8_sumOf_14 rfl (lv_at hl 2 rfl) ?_
        refine lv_aload_n hx hb dX8_sumOf_15 rfl (lv_at hl 0 rfl) ?_
        refine lv_iload_n hx hb dX8_sumOf_16 rfl (lv_at hl 1 rfl) ?_
        refine lv_iload_n hx hb dX8_sumOf_17 rfl (lv_at hl 3 rfl) ?_
        refine cl_X8_203 C h (hM 30 (by decide)) rfl (c_X8_amount l D cy ad Ls st hM b k (by omega) (by omega)) (x_room (by omega)) ⟨Nat.zero_le _, Nat.zero_le _⟩ hl.1 (Nat.le_of_ble_eq_true rfl) dX8_sumOf_18 (fun r2 u1 H locs hp h => ?_)
        obtain ⟨er2, eu1⟩ := hp; rw [eu1] at h; clear eu1 u1; refine x_topi er2 ?_; clear er2 r2
        refine lv_iadd hx hb dX8_sumOf_21 ?_
        refine lv_istore_n (lv' := [(2, .int ((msS st b k) + (maS st b k))), (0, .ref (ad 30)), (1, .int (nI b)), (3, .int (nI k))]) hx hb dX8_sumOf_22 rfl hl (by decide) rfl (fun ls hl => ?_)
        refine lv_iinc (v := nI (k + 1)) (lv' := [(3, .int (nI (k + 1))), (2, .int ((msS st b k) + (maS st b k))), (0, .ref (ad 30)), (1, .int (nI b))]) hx hb dX8_sumOf_23 hl (k := 3) rfl (nI_add _ _) (by decide) rfl (fun ls hl => ?_)
        refine lv_goto (tgt := 4) hx hb dX8_sumOf_26 (by decide) ?_
        exact ih4 (k + 1) (by omega) (by omega) H locs ls h (lv_sub hl [2, 3, 1, 0] rfl)
  exact L4 (n + 1) 0 (by omega) (by omega) H locs ls h (lv_sub hl [2, 3, 1, 0] rfl)

set_option maxHeartbeats 4000000 in
set_option maxRecDepth 100000 in
theorem c_X8_taxed (l : Launch) (D : va_G) (cy : Nat → ClassId) (ad : Nat → Nat) (Ls : List Nat) (st : XS) (hM : ∀ k, k ∈ LsM → k ∈ Ls) (b n : Nat) (hb30 : b < 30) (hn40 : n ≤ 40) (hn41 : gi st 41 30 = nI n) : xMi l yX8_taxed cX8_taxed 4 (some .int) 0 D cy ad Ls st [.ref (ad 30), .int (nI b)] (fun r u => r = mxS st b n ∧ u = st) := by
  intro sz
  refine x_of sz (by decide +kernel) (Nat.le_of_ble_eq_true rfl) ?_
  intro p e s m args below meth c ls hx hb hr hlocks C hsz h hl
  have hl : lv_has ls 4 [(0, .ref (ad 30)), (1, .int (nI b))] := hl
  obtain ⟨H, eH⟩ : ∃ z, z = s.heap := ⟨_, rfl⟩
  obtain ⟨locs, eL⟩ : ∃ z : List Loc, z = [] := ⟨_, rfl⟩
  rw [← eH, ← eL] at h
  rw [← eH, ← eL]
  clear eH eL
  refine lv_aload_n hx hb dX8_taxed_0 rfl (lv_at hl 0 rfl) ?_
  refine gf_X8_92 C h (hM 30 (by decide)) rfl (k2 := 68) rfl dX8_taxed_1 ?_
  refine lv_iload_n hx hb dX8_taxed_4 rfl (lv_at hl 1 rfl) ?_
  refine x_ald C h (hM 68 (by decide)) (n := 30) rfl b (by omega) (by decide) rfl dX8_taxed_5 ?_
  refine lv_istore_n (lv' := [(2, .int (ga st 68 b)), (0, .ref (ad 30)), (1, .int (nI b))]) hx hb dX8_taxed_6 rfl hl (by decide) rfl (fun ls hl => ?_)
  refine lv_iconst (v := nI 0) hx hb dX8_taxed_7 (by decide) ?_
  refine lv_istore_n (lv' := [(3, .int (nI 0)), (2, .int (ga st 68 b)), (0, .ref (ad 30)), (1, .int (nI b))]) hx hb dX8_taxed_8 rfl hl (by decide) rfl (fun ls hl => ?_)
  have L9 : ∀ (N9 : Nat) (k : Nat) (o : Int32) (ho : o = mxS st b k) (hk : k ≤ n) (hN : n - k < N9) (H : Heap) (locs : List Loc) (ls : Array Slot), xH D cy ad Ls (XA ad Ls sz) s st H locs → lv_has ls 4 [(0, .ref (ad 30)), (1, .int (nI b)), (2, .int o), (3, .int (nI k))] → W p l e (xR 0) s m args below meth c H locs 0 0 (MQ below (va_Qi (fun r u => r = mxS st b n ∧ u = st) (fun u => xPost D cy ad Ls (XA ad Ls sz) u) (XA ad Ls sz)) args s 0 0 (XA ad Ls sz)) (F0 m 9 ls []) := by
    intro N9
    induction N9 with
    | zero => intro k o ho hk hN; omega
    | succ N9 ih9 =>
      intro k o ho hk hN H locs ls h hl
      refine lv_iload_n hx hb dX8_taxed_9 rfl (lv_at hl 3 rfl) ?_
      refine lv_aload_n hx hb dX8_taxed_10 rfl (lv_at hl 0 rfl) ?_
      refine gf_X8_219 C h (hM 30 (by decide)) rfl dX8_taxed_11 ?_
      refine x_topi hn41 ?_
      refine x_icmpN_ge (tgt := 46) hx hb dX8_taxed_14 (by decide) (by omega) (by omega) (fun c14 => ?_) (fun c14 => ?_)
      · refine lv_iload_n hx hb dX8_taxed_46 rfl (lv_at hl 2 rfl) ?_
        exact x_iret C hr hlocks h ⟨by rw [show n = k by omega, ← ho], rfl⟩ dX8_taxed_47
      · refine lv_iload_n hx hb dX8_taxed_17 rfl (lv_at hl 2 rfl) ?_
        refine lv_aload_n hx hb dX8_taxed_18 rfl (lv_at hl 0 rfl) ?_
        refine gf_X8_101 C h (hM 30 (by decide)) rfl (k2 := 72) rfl dX8_taxed_19 ?_
        refine lv_iload_n hx hb dX8_taxed_22 rfl (lv_at hl 3 rfl) ?_
        refine x_ald C h (hM 72 (by decide)) (n := 40) rfl k (by omega) (by decide) rfl dX8_taxed_23 ?_
        refine lv_iload_n hx hb dX8_taxed_24 rfl (lv_at hl 1 rfl) ?_
        refine lv_icmp_ne (tgt := 37) hx hb dX8_taxed_25 (by decide) (fun c25 => ?_) (fun c25 => ?_)
        · refine lv_iconst (v := nI 0) hx hb dX8_taxed_37 (by decide) ?_
          refine lv_iadd hx hb dX8_taxed_38 ?_
          refine lv_istore_n (lv' := [(2, .int (o + (nI 0))), (0, .ref (ad 30)), (1, .int (nI b)), (3, .int (nI k))]) hx hb dX8_taxed_39 rfl hl (by decide) rfl (fun ls hl => ?_)
          refine lv_iinc (v := nI (k + 1)) (lv' := [(3, .int (nI (k + 1))), (2, .int (o + (nI 0))), (0, .ref (ad 30)), (1, .int (nI b))]) hx hb dX8_taxed_40 hl (k := 3) rfl (nI_add _ _) (by decide) rfl (fun ls hl => ?_)
          refine lv_goto (tgt := 9) hx hb dX8_taxed_43 (by decide) ?_
          exact ih9 (k + 1) _ (by rw [mxS, if_neg (fun q => c25 q), ← ho]) (by omega) (by omega) H locs ls h (lv_sub hl [2, 3, 1, 0] rfl)
        · refine lv_aload_n hx hb dX8_taxed_28 rfl (lv_at hl 0 rfl) ?_
          refine gf_X8_104 C h (hM 30 (by decide)) rfl (k2 := 73) rfl dX8_taxed_29 ?_
          refine lv_iload_n hx hb dX8_taxed_32 rfl (lv_at hl 3 rfl) ?_
          refine x_ald C h (hM 73 (by decide)) (n := 40) rfl k (by omega) (by decide) rfl dX8_taxed_33 ?_
          refine lv_goto (tgt := 38) hx hb dX8_taxed_34 (by decide) ?_
          refine lv_iadd hx hb dX8_taxed_38 ?_
          refine lv_istore_n (lv' := [(2, .int (o + (ga st 73 k))), (0, .ref (ad 30)), (1, .int (nI b)), (3, .int (nI k))]) hx hb dX8_taxed_39 rfl hl (by decide) rfl (fun ls hl => ?_)
          refine lv_iinc (v := nI (k + 1)) (lv' := [(3, .int (nI (k + 1))), (2, .int (o + (ga st 73 k))), (0, .ref (ad 30)), (1, .int (nI b))]) hx hb dX8_taxed_40 hl (k := 3) rfl (nI_add _ _) (by decide) rfl (fun ls hl => ?_)
          refine lv_goto (tgt := 9) hx hb dX8_taxed_43 (by decide) ?_
          exact ih9 (k + 1) _ (by rw [mxS, if_pos (by rw [c25]), ← ho]) (by omega) (by omega) H locs ls h (lv_sub hl [2, 3, 1, 0] rfl)
  exact L9 (n + 1) 0 _ rfl (by omega) (by omega) H locs ls h (lv_sub hl [2, 3, 1, 0] rfl)

set_option maxHeartbeats 4000000 in
set_option maxRecDepth 100000 in
theorem c_X8_isInvoice (l : Launch) (D : va_G) (cy : Nat → ClassId) (ad : Nat → Nat) (Ls : List Nat) (st : XS) (hM : ∀ k, k ∈ LsM → k ∈ Ls) (n : Nat) (hn28 : gi st 28 30 = nI n) (x : Int32) : xMi l yX8_isInvoice cX8_isInvoice 2 (some .boolean) 1 D cy ad Ls st [.ref (ad 30), .int x] (fun r u => r = bi (inR x (nI 0) (nI n - nI 1)) ∧ u = st) := by
  intro sz
  refine x_of sz (by decide +kernel) (Nat.le_of_ble_eq_true rfl) ?_
  intro p e s m args below meth c ls hx hb hr hlocks C hsz h hl
  have hl : lv_has ls 2 [(0, .ref (ad 30)), (1, .int x)] := hl
  obtain ⟨H, eH⟩ : ∃ z, z = s.heap := ⟨_, rfl⟩
  obtain ⟨locs, eL⟩ : ∃ z : List Loc, z = [] := ⟨_, rfl⟩
  rw [← eH, ← eL] at h
  rw [← eH, ← eL]
  clear eH eL
  refine lv_iload_n hx hb dX8_isInvoice_0 rfl (lv_at hl 1 rfl) ?_
  refine lv_iconst (v := nI 0) hx hb dX8_isInvoice_1 (by decide) ?_
  refine lv_aload_n hx hb dX8_isInvoice_2 rfl (lv_at hl 0 rfl) ?_
  refine gf_X8_210 C h (hM 30 (by decide)) rfl dX8_isInvoice_3 ?_
  refine x_topi hn28 ?_
  refine lv_iconst (v := nI 1) hx hb dX8_isInvoice_6 (by decide) ?_
  refine lv_isub hx hb dX8_isInvoice_7 ?_
  refine cl_X8_120 C h (c_X8_isIn l D cy ad Ls st x (nI 0) ((nI n) - (nI 1))) (x_room (by omega)) ⟨Nat.zero_le _, Nat.zero_le _⟩ hl.1 (Nat.le_of_ble_eq_true rfl) dX8_isInvoice_8 (fun r2 u1 H locs hp h => ?_)
  obtain ⟨er2, eu1⟩ := hp; rw [eu1] at h; clear eu1 u1; refine x_topi er2 ?_; clear er2 r2
  exact x_zret C hr hlocks (by first | rfl | exact bi_zn _ | decide) h ⟨rfl, rfl⟩ dX8_isInvoice_11
