set_option maxHeartbeats 4000000 in
set_option maxRecDepth 100000 in
theorem c_L_telling (l : Launch) (D : va_G) (cy : Nat → ClassId) (ad : Nat → Nat) (Ls : List Nat) (st : XS) (hT : 31 ∈ Ls) (n : Nat) (hn15 : n ≤ 15) (hRt : RtL (ga st 31) (ga st 13) (ga st 14) (ga st 15) (ga st 16) n) (p9 k9 d9 : Int32) : xMi l yL_telling cL_telling 7 (some .int) 0 D cy ad Ls st [.ref (ad 31), .int (nI n), .int p9, .int k9, .int d9] (fun r u => r = oI (knoS st n p9 k9 d9) ∧ u = st) := by
  intro sz
  refine x_of sz (by decide +kernel) (Nat.le_of_ble_eq_true rfl) ?_
  intro p e s m args below meth c ls hx hb hr hlocks C hsz h hl
  have hl : lv_has ls 7 [(0, .ref (ad 31)), (1, .int (nI n)), (2, .int p9), (3, .int k9), (4, .int d9)] := hl
  obtain ⟨H, eH⟩ : ∃ z, z = s.heap := ⟨_, rfl⟩
  obtain ⟨locs, eL⟩ : ∃ z : List Loc, z = [] := ⟨_, rfl⟩
  rw [← eH, ← eL] at h
  rw [← eH, ← eL]
  clear eH eL
  refine lv_iconst (v := (-1)) hx hb dL_telling_0 (by decide) ?_
  refine lv_istore (lv' := [(5, .int (-1)), (0, .ref (ad 31)), (1, .int (nI n)), (2, .int p9), (3, .int k9), (4, .int d9)]) hx hb dL_telling_1 hl (by decide) rfl (fun ls hl => ?_)
  refine lv_iload_n hx hb dL_telling_3 rfl (lv_at hl 2 rfl) ?_
  refine lv_iconst (v := nI 1) hx hb dL_telling_4 (by decide) ?_
  refine lv_isub hx hb dL_telling_5 ?_
  refine lv_istore (lv' := [(6, .int ((nI n) - (nI 1))), (5, .int (-1)), (0, .ref (ad 31)), (1, .int (nI n)), (2, .int p9), (3, .int k9), (4, .int d9)]) hx hb dL_telling_6 hl (by decide) rfl (fun ls hl => ?_)
  have L8 : ∀ (N8 : Nat) (j9 : Nat) (o : Option Nat) (hjn : j9 ≤ n) (hB : isB (ga st 31) p9 k9 d9 j9 n o) (hN : j9 < N8) (H : Heap) (locs : List Loc) (ls : Array Slot), xH D cy ad Ls (XA ad Ls sz) s st H locs → lv_has ls 7 [(0, .ref (ad 31)), (1, .int (nI n)), (2, .int p9), (3, .int k9), (4, .int d9), (5, .int (oI o)), (6, .int (nI j9 - nI 1))] → W p l e (xR 0) s m args below meth c H locs 0 0 (MQ below (va_Qi (fun r u => r = oI (knoS st n p9 k9 d9) ∧ u = st) (fun u => xPost D cy ad Ls (XA ad Ls sz) u) (XA ad Ls sz)) args s 0 0 (XA ad Ls sz)) (F0 m 8 ls []) := by
    intro N8
    induction N8 with
    | zero => intro j9 o hjn hB hN; omega
    | succ N8 ih8 =>
      intro j9 o hjn hB hN H locs ls h hl
      refine lv_iload hx hb dL_telling_8 (lv_at hl 6 rfl) ?_
      refine lv_if_lt (tgt := 82) hx hb dL_telling_10 (by decide) (fun c10 => ?_) (fun c10 => ?_)
      · refine lv_iload hx hb dL_telling_82 (lv_at hl 5 rfl) ?_
        exact x_iret C hr hlocks h ⟨by have hj0 : j9 = 0 := by { rcases j9 with _ | q; { rfl }; { rw [nI_sub (by omega), Nat.add_sub_cancel] at c10; exact absurd c10 (nI_pos (by omega)) } }; subst hj0; rw [isB_one hB (knO_isB n hRt).1], rfl⟩ dL_telling_84
      · obtain ⟨j, rfl⟩ : ∃ q, j9 = q + 1 := by
          rcases j9 with _ | q
          · exact absurd (by decide) c10
          · exact ⟨q, rfl⟩
        have ej : nI (j + 1) - nI 1 = nI j := nI_sub (by omega)
        rw [ej] at hl
        have hjn2 : j < n := by omega
        refine lv_aload_n hx hb dL_telling_13 rfl (lv_at hl 0 rfl) ?_
        refine lv_iconst (v := nI 4) hx hb dL_telling_14 (by decide) ?_
        refine lv_iload hx hb dL_telling_15 (lv_at hl 6 rfl) ?_
        refine x_mulN hx hb dL_telling_17 ?_
        refine x_ald C h hT (n := 64) rfl (4 * j) (by omega) (by decide) rfl dL_telling_18 ?_
        refine lv_iload_n hx hb dL_telling_19 rfl (lv_at hl 2 rfl) ?_
        refine lv_icmp_ne (tgt := 76) hx hb dL_telling_20 (by decide) (fun c20 => ?_) (fun c20 => ?_)
        · refine lv_iinc (v := nI j - nI 1) (lv' := [(6, .int (nI j - nI 1)), (0, .ref (ad 31)), (1, .int (nI n)), (2, .int p9), (3, .int k9), (4, .int d9), (5, .int (oI o))]) hx hb dL_telling_76 hl (k := 6) rfl (by rw [Int32.sub_eq_add_neg]; rfl) (by decide) rfl (fun ls hl => ?_)
          refine lv_goto (tgt := 8) hx hb dL_telling_79 (by decide) ?_
          exact ih8 j o (by omega) (isB_skip hB (fun q => c20 q.1)) (by omega) H locs ls h (lv_sub hl [1, 2, 3, 4, 5, 6, 0] rfl)
        · refine lv_aload_n hx hb dL_telling_23 rfl (lv_at hl 0 rfl) ?_
          refine lv_iconst (v := nI 4) hx hb dL_telling_24 (by decide) ?_
          refine lv_iload hx hb dL_telling_25 (lv_at hl 6 rfl) ?_
          refine x_mulN hx hb dL_telling_27 ?_
          refine lv_iconst (v := nI 1) hx hb dL_telling_28 (by decide) ?_
          refine x_addN hx hb dL_telling_29 ?_
          refine x_ald C h hT (n := 64) rfl ((4 * j) + 1) (by omega) (by decide) rfl dL_telling_30 ?_
          refine lv_iload_n hx hb dL_telling_31 rfl (lv_at hl 3 rfl) ?_
          refine lv_icmp_ne (tgt := 76) hx hb dL_telling_32 (by decide) (fun c32 => ?_) (fun c32 => ?_)
          · refine lv_iinc (v := nI j - nI 1) (lv' := [(6, .int (nI j - nI 1)), (0, .ref (ad 31)), (1, .int (nI n)), (2, .int p9), (3, .int k9), (4, .int d9), (5, .int (oI o))]) hx hb dL_telling_76 hl (k := 6) rfl (by rw [Int32.sub_eq_add_neg]; rfl) (by decide) rfl (fun ls hl => ?_)
            refine lv_goto (tgt := 8) hx hb dL_telling_79 (by decide) ?_
            exact ih8 j o (by omega) (isB_skip hB (fun q => c32 q.2.1)) (by omega) H locs ls h (lv_sub hl [1, 2, 3, 4, 5, 6, 0] rfl)
          · refine lv_aload_n hx hb dL_telling_35 rfl (lv_at hl 0 rfl) ?_
            refine lv_iconst (v := nI 4) hx hb dL_telling_36 (by decide) ?_
            refine lv_iload hx hb dL_telling_37 (lv_at hl 6 rfl) ?_
            refine x_mulN hx hb dL_telling_39 ?_
            refine lv_iconst (v := nI 3) hx hb dL_telling_40 (by decide) ?_
            refine x_addN hx hb dL_telling_41 ?_
            refine x_ald C h hT (n := 64) rfl ((4 * j) + 3) (by omega) (by decide) rfl dL_telling_42 ?_
            refine lv_iload hx hb dL_telling_43 (lv_at hl 4 rfl) ?_
            refine lv_icmp_gt (tgt := 76) hx hb dL_telling_45 (by decide) (fun c45 => ?_) (fun c45 => ?_)
            · refine lv_iinc (v := nI j - nI 1) (lv' := [(6, .int (nI j - nI 1)), (0, .ref (ad 31)), (1, .int (nI n)), (2, .int p9), (3, .int k9), (4, .int d9), (5, .int (oI o))]) hx hb dL_telling_76 hl (k := 6) rfl (by rw [Int32.sub_eq_add_neg]; rfl) (by decide) rfl (fun ls hl => ?_)
              refine lv_goto (tgt := 8) hx hb dL_telling_79 (by decide) ?_
              exact ih8 j o (by omega) (isB_skip hB (fun q => i32_lt_nle c45 q.2.2)) (by omega) H locs ls h (lv_sub hl [1, 2, 3, 4, 5, 6, 0] rfl)
            · rcases o with _ | q
              · have hl : lv_has ls 7 [(0, .ref (ad 31)), (1, .int (nI n)), (2, .int p9), (3, .int k9), (4, .int d9), (5, .int (-1)), (6, .int (nI j))] := hl
                refine lv_iload hx hb dL_telling_48 (lv_at hl 5 rfl) ?_
                refine lv_if_lt (tgt := 72) hx hb dL_telling_50 (by decide) (fun _ => ?_) (fun q9 => absurd (by decide) q9)
                refine lv_iload hx hb dL_telling_72 (lv_at hl 6 rfl) ?_
                refine lv_istore (lv' := [(5, .int (nI j)), (0, .ref (ad 31)), (1, .int (nI n)), (2, .int p9), (3, .int k9), (4, .int d9), (6, .int (nI j))]) hx hb dL_telling_74 hl (by decide) rfl (fun ls hl => ?_)
                refine lv_iinc (v := nI j - nI 1) (lv' := [(6, .int (nI j - nI 1)), (5, .int (nI j)), (0, .ref (ad 31)), (1, .int (nI n)), (2, .int p9), (3, .int k9), (4, .int d9)]) hx hb dL_telling_76 hl (k := 6) rfl (by rw [Int32.sub_eq_add_neg]; rfl) (by decide) rfl (fun ls hl => ?_)
                refine lv_goto (tgt := 8) hx hb dL_telling_79 (by decide) ?_
                exact ih8 j (some j) (by omega) (isB_first (by omega) hB ⟨c20, c32, i32_nlt c45⟩) (by omega) H locs ls h (lv_sub hl [2, 3, 4, 5, 6, 1, 0] rfl)
              · have hl : lv_has ls 7 [(0, .ref (ad 31)), (1, .int (nI n)), (2, .int p9), (3, .int k9), (4, .int d9), (5, .int (nI q)), (6, .int (nI j))] := hl
                have hqn : q < n := hB.2.1
                refine lv_iload hx hb dL_telling_48 (lv_at hl 5 rfl) ?_
                refine x_if_lt_f hx hb dL_telling_50 (nI_pos (by omega)) ?_
                refine lv_aload_n hx hb dL_telling_53 rfl (lv_at hl 0 rfl) ?_
                refine lv_iconst (v := nI 4) hx hb dL_telling_54 (by decide) ?_
                refine lv_iload hx hb dL_telling_55 (lv_at hl 6 rfl) ?_
                refine x_mulN hx hb dL_telling_57 ?_
                refine lv_iconst (v := nI 3) hx hb dL_telling_58 (by decide) ?_
                refine x_addN hx hb dL_telling_59 ?_
                refine x_ald C h hT (n := 64) rfl ((4 * j) + 3) (by omega) (by decide) rfl dL_telling_60 ?_
                refine lv_aload_n hx hb dL_telling_61 rfl (lv_at hl 0 rfl) ?_
                refine lv_iconst (v := nI 4) hx hb dL_telling_62 (by decide) ?_
                refine lv_iload hx hb dL_telling_63 (lv_at hl 5 rfl) ?_
                refine x_mulN hx hb dL_telling_65 ?_
                refine lv_iconst (v := nI 3) hx hb dL_telling_66 (by decide) ?_
                refine x_addN hx hb dL_telling_67 ?_
                refine x_ald C h hT (n := 64) rfl ((4 * q) + 3) (by omega) (by decide) rfl dL_telling_68 ?_
                refine lv_icmp_le (tgt := 76) hx hb dL_telling_69 (by decide) (fun c69 => ?_) (fun c69 => ?_)
                · refine lv_iinc (v := nI j - nI 1) (lv' := [(6, .int (nI j - nI 1)), (0, .ref (ad 31)), (1, .int (nI n)), (2, .int p9), (3, .int k9), (4, .int d9), (5, .int (nI q))]) hx hb dL_telling_76 hl (k := 6) rfl (by rw [Int32.sub_eq_add_neg]; rfl) (by decide) rfl (fun ls hl => ?_)
                  refine lv_goto (tgt := 8) hx hb dL_telling_79 (by decide) ?_
                  exact ih8 j (some q) (by omega) (isB_less hB c69) (by omega) H locs ls h (lv_sub hl [1, 2, 3, 4, 5, 6, 0] rfl)
                · refine lv_iload hx hb dL_telling_72 (lv_at hl 6 rfl) ?_
                  refine lv_istore (lv' := [(5, .int (nI j)), (0, .ref (ad 31)), (1, .int (nI n)), (2, .int p9), (3, .int k9), (4, .int d9), (6, .int (nI j))]) hx hb dL_telling_74 hl (by decide) rfl (fun ls hl => ?_)
                  refine lv_iinc (v := nI j - nI 1) (lv' := [(6, .int (nI j - nI 1)), (5, .int (nI j)), (0, .ref (ad 31)), (1, .int (nI n)), (2, .int p9), (3, .int k9), (4, .int d9)]) hx hb dL_telling_76 hl (k := 6) rfl (by rw [Int32.sub_eq_add_neg]; rfl) (by decide) rfl (fun ls hl => ?_)
                  refine lv_goto (tgt := 8) hx hb dL_telling_79 (by decide) ?_
                  exact ih8 j (some j) (by omega) (isB_more (by omega) hB ⟨c20, c32, i32_nlt c45⟩ c69) (by omega) H locs ls h (lv_sub hl [2, 3, 4, 5, 6, 1, 0] rfl)
  exact L8 (n + 1) n none (by omega) (fun i h1 h2 => absurd h1 (by omega)) (by omega) H locs ls h (lv_sub hl [2, 3, 4, 5, 6, 1, 0] rfl)
