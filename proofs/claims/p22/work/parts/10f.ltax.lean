set_option maxHeartbeats 4000000 in
set_option maxRecDepth 100000 in
theorem c_L_tax (l : Launch) (D : va_G) (cy : Nat → ClassId) (ad : Nat → Nat) (Ls : List Nat) (st : XS) (h31 : 31 ∈ Ls) (h32 : 32 ∈ Ls) (h33 : 33 ∈ Ls) (kb : Nat) (hkb : kb ∈ Ls) (hkdb : kd kb = 104) (hkb41 : ¬ kb = 41) (h41n : 41 ∉ Ls) (hcl : xCl st Ls) (i : Nat) (hi7 : i < 7) (n : Nat) (hn3 : n ≤ 3) (hn32 : ga st 32 (7 * i + 2) = nI n) (w9 : Int32) (hw9 : ga st 32 (7 * i + 4) = w9) (kn : Nat → Nat) (hkn : ∀ k, k < n → kn k < 4 ∧ ga st 33 (9 * i + 3 * k) = nI (kn k)) (o : Nat → Option Nat) (ho : ∀ k, k < n → ga st kb k = oI (o k) ∧ ∀ j, o k = some j → j < 15) : xAi l yL_tax cL_tax 10 (some .int) 0 1 4 D cy ad Ls st [.ref (ad 31), .ref (ad 32), .ref (ad 33), .int (nI i), .ref (ad kb)] (fun r u => r = ltx w9 (itsF (ga st 33) (ga st 31) i o) kn n ∧ u = st) := by
  intro sz
  refine x_of sz (by decide +kernel) (Nat.le_of_ble_eq_true rfl) ?_
  intro p e s m args below meth c ls hx hb hr hlocks C hsz h hl
  have hl : lv_has ls 10 [(0, .ref (ad 31)), (1, .ref (ad 32)), (2, .ref (ad 33)), (3, .int (nI i)), (4, .ref (ad kb))] := hl
  obtain ⟨H, eH⟩ : ∃ z, z = s.heap := ⟨_, rfl⟩
  obtain ⟨locs, eL⟩ : ∃ z : List Loc, z = [] := ⟨_, rfl⟩
  rw [← eH, ← eL] at h
  rw [← eH, ← eL]
  clear eH eL
  refine lv_iconst (v := nI 0) hx hb dL_tax_0 (by decide) ?_
  refine lv_istore (lv' := [(5, .int (nI 0)), (0, .ref (ad 31)), (1, .ref (ad 32)), (2, .ref (ad 33)), (3, .int (nI i)), (4, .ref (ad kb))]) hx hb dL_tax_1 hl (by decide) rfl (fun ls hl => ?_)
  refine lv_iconst (v := nI 0) hx hb dL_tax_3 (by decide) ?_
  refine lv_istore (lv' := [(6, .int (nI 0)), (5, .int (nI 0)), (0, .ref (ad 31)), (1, .ref (ad 32)), (2, .ref (ad 33)), (3, .int (nI i)), (4, .ref (ad kb))]) hx hb dL_tax_4 hl (by decide) rfl (fun ls hl => ?_)
  refine lv_iconst (v := nI 4) hx hb dL_tax_6 (by decide) ?_
  refine x_mkI C h hcl (k := 41) h41n rfl (by decide) (by decide) (by decide) dL_tax_7 (fun ad2 H had h hcl2 => ?_)
  obtain ⟨v0, ev0⟩ : ∃ z9, z9 = sa st 41 (fun _ => 0) := ⟨_, rfl⟩
  rw [← ev0] at h
  have hl : lv_has ls 10 [(6, .int (nI 0)), (5, .int (nI 0)), (0, .ref (ad2 31)), (1, .ref (ad2 32)), (2, .ref (ad2 33)), (3, .int (nI i)), (4, .ref (ad2 kb))] := by rw [had 31 h31, had 32 h32, had 33 h33, had kb hkb]; exact hl
  refine lv_astore (lv' := [(7, .ref (ad2 41)), (6, .int (nI 0)), (5, .int (nI 0)), (0, .ref (ad2 31)), (1, .ref (ad2 32)), (2, .ref (ad2 33)), (3, .int (nI i)), (4, .ref (ad2 kb))]) hx hb dL_tax_9 hl (by decide) rfl (fun ls hl => ?_)
  refine lv_iconst (v := nI 0) hx hb dL_tax_11 (by decide) ?_
  refine lv_istore (lv' := [(8, .int (nI 0)), (7, .ref (ad2 41)), (6, .int (nI 0)), (5, .int (nI 0)), (0, .ref (ad2 31)), (1, .ref (ad2 32)), (2, .ref (ad2 33)), (3, .int (nI i)), (4, .ref (ad2 kb))]) hx hb dL_tax_12 hl (by decide) rfl (fun ls hl => ?_)
  have L14 : ∀ (N14 : Nat) (v1 : XS) (k : Nat) (hv1 : v1 = sa st 41 (ltK (itsF (ga st 33) (ga st 31) i o) kn k)) (hk : k ≤ n) (hN : n - k < N14) (H : Heap) (locs : List Loc) (ls : Array Slot), xH D cy ad2 (Ls ++ [41]) (XA ad Ls sz) s v1 H locs → lv_has ls 10 [(0, .ref (ad2 31)), (1, .ref (ad2 32)), (2, .ref (ad2 33)), (3, .int (nI i)), (4, .ref (ad2 kb)), (5, .int (ltL (itsF (ga st 33) (ga st 31) i o) k)), (6, .int (ltA (itsF (ga st 33) (ga st 31) i o) k)), (7, .ref (ad2 41)), (8, .int (nI k))] → W p l e (xRX 0 1 4) s m args below meth c H locs (0 + 1) (0 + 4) (MQ below (va_Qi (fun r u => r = ltx w9 (itsF (ga st 33) (ga st 31) i o) kn n ∧ u = st) (fun u => xPost D cy ad Ls (XA ad Ls sz) u) (XA ad Ls sz)) args s 1 4 (XA ad Ls sz)) (F0 m 14 ls []) := by
    intro N14
    induction N14 with
    | zero => intro v1 k hv1 hk hN; omega
    | succ N14 ih14 =>
      intro v1 k hv1 hk hN H locs ls h hl
      refine lv_iload hx hb dL_tax_14 (lv_at hl 8 rfl) ?_
      refine lv_aload_n hx hb dL_tax_16 rfl (lv_at hl 1 rfl) ?_
      refine lv_bipush (v := nI 7) hx hb dL_tax_17 (by decide) ?_
      refine lv_iload_n hx hb dL_tax_19 rfl (lv_at hl 3 rfl) ?_
      refine x_mulN hx hb dL_tax_20 ?_
      refine lv_iconst (v := nI 2) hx hb dL_tax_21 (by decide) ?_
      refine x_addN hx hb dL_tax_22 ?_
      refine x_ald C h (List.mem_append_left _ h32) (n := 64) rfl ((7 * i) + 2) (by omega) (by decide) rfl dL_tax_23 ?_
      refine x_topi (y := nI n) (by rw [hv1]; exact hn32) ?_
      refine x_icmpN_ge (tgt := 125) hx hb dL_tax_24 (by decide) (by omega) (by omega) (fun c24 => ?_) (fun c24 => ?_)
      · refine lv_aload_n hx hb dL_tax_125 rfl (lv_at hl 1 rfl) ?_
        refine lv_bipush (v := nI 7) hx hb dL_tax_126 (by decide) ?_
        refine lv_iload_n hx hb dL_tax_128 rfl (lv_at hl 3 rfl) ?_
        refine x_mulN hx hb dL_tax_129 ?_
        refine lv_iconst (v := nI 4) hx hb dL_tax_130 (by decide) ?_
        refine x_addN hx hb dL_tax_131 ?_
        refine x_ald C h (List.mem_append_left _ h32) (n := 64) rfl ((7 * i) + 4) (by omega) (by decide) rfl dL_tax_132 ?_
        refine x_topi (y := w9) (by rw [hv1]; exact hw9) ?_
        refine lv_if_ne (tgt := 139) hx hb dL_tax_133 (by decide) (fun c133 => ?_) (fun c133 => ?_)
        · refine lv_aload_n hx hb dL_tax_139 rfl (lv_at hl 1 rfl) ?_
          refine lv_bipush (v := nI 7) hx hb dL_tax_140 (by decide) ?_
          refine lv_iload_n hx hb dL_tax_142 rfl (lv_at hl 3 rfl) ?_
          refine x_mulN hx hb dL_tax_143 ?_
          refine lv_iconst (v := nI 4) hx hb dL_tax_144 (by decide) ?_
          refine x_addN hx hb dL_tax_145 ?_
          refine x_ald C h (List.mem_append_left _ h32) (n := 64) rfl ((7 * i) + 4) (by omega) (by decide) rfl dL_tax_146 ?_
          refine x_topi (y := w9) (by rw [hv1]; exact hw9) ?_
          refine lv_iconst (v := nI 2) hx hb dL_tax_147 (by decide) ?_
          refine lv_icmp_ne (tgt := 160) hx hb dL_tax_148 (by decide) (fun c148 => ?_) (fun c148 => ?_)
          · refine lv_iconst (v := nI 0) hx hb dL_tax_160 (by decide) ?_
            refine lv_istore (lv' := [(8, .int (nI 0)), (0, .ref (ad2 31)), (1, .ref (ad2 32)), (2, .ref (ad2 33)), (3, .int (nI i)), (4, .ref (ad2 kb)), (5, .int (ltL (itsF (ga st 33) (ga st 31) i o) k)), (6, .int (ltA (itsF (ga st 33) (ga st 31) i o) k)), (7, .ref (ad2 41))]) hx hb dL_tax_161 hl (by decide) rfl (fun ls hl => ?_)
            refine lv_iconst (v := nI 0) hx hb dL_tax_163 (by decide) ?_
            refine lv_istore (lv' := [(9, .int (nI 0)), (8, .int (nI 0)), (0, .ref (ad2 31)), (1, .ref (ad2 32)), (2, .ref (ad2 33)), (3, .int (nI i)), (4, .ref (ad2 kb)), (5, .int (ltL (itsF (ga st 33) (ga st 31) i o) k)), (6, .int (ltA (itsF (ga st 33) (ga st 31) i o) k)), (7, .ref (ad2 41))]) hx hb dL_tax_164 hl (by decide) rfl (fun ls hl => ?_)
            have L166 : ∀ (N166 : Nat) (i3 : Nat) (by9 : Int32) (hby : by9 = ltB (ltK (itsF (ga st 33) (ga st 31) i o) kn k) i3) (hi3 : i3 ≤ 4) (hN : 4 - i3 < N166) (H : Heap) (locs : List Loc) (ls : Array Slot), xH D cy ad2 (Ls ++ [41]) (XA ad Ls sz) s v1 H locs → lv_has ls 10 [(7, .ref (ad2 41)), (8, .int by9), (9, .int (nI i3))] → W p l e (xRX 0 1 4) s m args below meth c H locs (0 + 1) (0 + 4) (MQ below (va_Qi (fun r u => r = ltx w9 (itsF (ga st 33) (ga st 31) i o) kn n ∧ u = st) (fun u => xPost D cy ad Ls (XA ad Ls sz) u) (XA ad Ls sz)) args s 1 4 (XA ad Ls sz)) (F0 m 166 ls []) := by
              intro N166
              induction N166 with
              | zero => intro i3 by9 hby hi3 hN; omega
              | succ N166 ih166 =>
                intro i3 by9 hby hi3 hN H locs ls h hl
                refine lv_iload hx hb dL_tax_166 (lv_at hl 2 rfl) ?_
                refine lv_iconst (v := nI 4) hx hb dL_tax_168 (by decide) ?_
                refine x_icmpN_ge (tgt := 194) hx hb dL_tax_169 (by decide) (by omega) (by omega) (fun c169 => ?_) (fun c169 => ?_)
                · refine lv_iload hx hb dL_tax_194 (lv_at hl 1 rfl) ?_
                  have h := x_back (st := st) h had (fun j hj => by rw [hv1]; exact x_agsa (fun q => h41n (q ▸ hj))) hcl
                  refine W.widen (k := 1) (n := 4) (by omega) (by omega) ?_
                  exact x_iret C hr hlocks h ⟨by rw [ltx, if_neg (show ¬ w9 = nI 0 from c133), if_neg c148, ← show k = n by omega, show 4 = i3 by omega, ← hby], rfl⟩ dL_tax_196
                · refine lv_iload hx hb dL_tax_172 (lv_at hl 1 rfl) ?_
                  refine lv_aload hx hb dL_tax_174 (lv_at hl 0 rfl) ?_
                  refine lv_iload hx hb dL_tax_176 (lv_at hl 2 rfl) ?_
                  refine x_ald C h (List.mem_append_right _ (List.mem_singleton.mpr rfl)) (n := 4) rfl i3 (by omega) (by decide) rfl dL_tax_178 ?_
                  rw [(show ga v1 41 = ltK (itsF (ga st 33) (ga st 31) i o) kn k by rw [hv1]; exact ga_self ..)]
                  refine lv_bipush (v := nI 50) hx hb dL_tax_179 (by decide) ?_
                  refine lv_iadd hx hb dL_tax_181 ?_
                  refine lv_bipush (v := nI 100) hx hb dL_tax_182 (by decide) ?_
                  refine lv_idiv hx hb dL_tax_184 (by decide) ?_
                  refine lv_iadd hx hb dL_tax_185 ?_
                  refine lv_istore (lv' := [(8, .int (by9 + ((((ltK (itsF (ga st 33) (ga st 31) i o) kn k) i3) + (nI 50)) / (nI 100)))), (7, .ref (ad2 41)), (9, .int (nI i3))]) hx hb dL_tax_186 hl (by decide) rfl (fun ls hl => ?_)
                  refine lv_iinc (v := nI (i3 + 1)) (lv' := [(9, .int (nI (i3 + 1))), (8, .int (by9 + ((((ltK (itsF (ga st 33) (ga st 31) i o) kn k) i3) + (nI 50)) / (nI 100)))), (7, .ref (ad2 41))]) hx hb dL_tax_188 hl (k := 2) rfl (nI_add _ _) (by decide) rfl (fun ls hl => ?_)
                  refine lv_goto (tgt := 166) hx hb dL_tax_191 (by decide) ?_
                  exact ih166 (i3 + 1) _ (by rw [ltB, ← hby]; rfl) (by omega) (by omega) H locs ls h (lv_sub hl [2, 1, 0] rfl)
            exact L166 5 0 _ rfl (by omega) (by omega) H locs ls h (lv_sub hl [9, 1, 0] rfl)
          · refine lv_iload hx hb dL_tax_151 (lv_at hl 6 rfl) ?_
            refine lv_bipush (v := nI 50) hx hb dL_tax_153 (by decide) ?_
            refine lv_iadd hx hb dL_tax_155 ?_
            refine lv_bipush (v := nI 100) hx hb dL_tax_156 (by decide) ?_
            refine lv_idiv hx hb dL_tax_158 (by decide) ?_
            have h := x_back (st := st) h had (fun j hj => by rw [hv1]; exact x_agsa (fun q => h41n (q ▸ hj))) hcl
            refine W.widen (k := 1) (n := 4) (by omega) (by omega) ?_
            exact x_iret C hr hlocks h ⟨by rw [ltx, if_neg (show ¬ w9 = nI 0 from c133), if_pos c148, ← show k = n by omega]; rfl, rfl⟩ dL_tax_159
        · refine lv_iload hx hb dL_tax_136 (lv_at hl 5 rfl) ?_
          have h := x_back (st := st) h had (fun j hj => by rw [hv1]; exact x_agsa (fun q => h41n (q ▸ hj))) hcl
          refine W.widen (k := 1) (n := 4) (by omega) (by omega) ?_
          exact x_iret C hr hlocks h ⟨by rw [ltx, if_pos (show w9 = nI 0 from c133), ← show k = n by omega], rfl⟩ dL_tax_138
      · refine lv_aload_n hx hb dL_tax_27 rfl (lv_at hl 2 rfl) ?_
        refine lv_bipush (v := nI 9) hx hb dL_tax_28 (by decide) ?_
        refine lv_iload_n hx hb dL_tax_30 rfl (lv_at hl 3 rfl) ?_
        refine x_mulN hx hb dL_tax_31 ?_
        refine lv_iconst (v := nI 3) hx hb dL_tax_32 (by decide) ?_
        refine lv_iload hx hb dL_tax_33 (lv_at hl 8 rfl) ?_
        refine x_mulN hx hb dL_tax_35 ?_
        refine x_addN hx hb dL_tax_36 ?_
        refine lv_iconst (v := nI 1) hx hb dL_tax_37 (by decide) ?_
        refine x_addN hx hb dL_tax_38 ?_
        refine x_ald C h (List.mem_append_left _ h33) (n := 64) rfl (((9 * i) + (3 * k)) + 1) (by omega) (by decide) rfl dL_tax_39 ?_
        refine x_topi (y := ga st 33 (9 * i + 3 * k + 1)) (by rw [hv1]; rfl) ?_
        refine lv_aload_n hx hb dL_tax_40 rfl (lv_at hl 2 rfl) ?_
        refine lv_bipush (v := nI 9) hx hb dL_tax_41 (by decide) ?_
        refine lv_iload_n hx hb dL_tax_43 rfl (lv_at hl 3 rfl) ?_
        refine x_mulN hx hb dL_tax_44 ?_
        refine lv_iconst (v := nI 3) hx hb dL_tax_45 (by decide) ?_
        refine lv_iload hx hb dL_tax_46 (lv_at hl 8 rfl) ?_
        refine x_mulN hx hb dL_tax_48 ?_
        refine x_addN hx hb dL_tax_49 ?_
        refine lv_iconst (v := nI 2) hx hb dL_tax_50 (by decide) ?_
        refine x_addN hx hb dL_tax_51 ?_
        refine x_ald C h (List.mem_append_left _ h33) (n := 64) rfl (((9 * i) + (3 * k)) + 2) (by omega) (by decide) rfl dL_tax_52 ?_
        refine x_topi (y := ga st 33 (9 * i + 3 * k + 2)) (by rw [hv1]; rfl) ?_
        refine lv_imul hx hb dL_tax_53 ?_
        refine lv_aload hx hb dL_tax_54 (lv_at hl 4 rfl) ?_
        refine lv_iload hx hb dL_tax_56 (lv_at hl 8 rfl) ?_
        refine x_ald C h (List.mem_append_left _ hkb) (n := 4) hkdb k (by omega) (by decide) rfl dL_tax_58 ?_
        refine x_topi (y := oI (o k)) (by rw [hv1, ga_sa, if_neg hkb41]; exact (ho k (by omega)).1) ?_
        rcases hok : o k with _ | j
        · refine lv_if_ge (tgt := 66) hx hb dL_tax_59 (by decide) (fun q9 => absurd q9 (by decide)) (fun _ => ?_)
          refine lv_iconst (v := nI 0) hx hb dL_tax_62 (by decide) ?_
          refine lv_goto (tgt := 77) hx hb dL_tax_63 (by decide) ?_
          refine lv_imul hx hb dL_tax_77 ?_
          refine x_topi (y := itsF (ga st 33) (ga st 31) i o k) (by unfold itsF; rw [hok]; rfl) ?_
          refine lv_istore (lv' := [(9, .int (itsF (ga st 33) (ga st 31) i o k)), (0, .ref (ad2 31)), (1, .ref (ad2 32)), (2, .ref (ad2 33)), (3, .int (nI i)), (4, .ref (ad2 kb)), (5, .int (ltL (itsF (ga st 33) (ga st 31) i o) k)), (6, .int (ltA (itsF (ga st 33) (ga st 31) i o) k)), (7, .ref (ad2 41)), (8, .int (nI k))]) hx hb dL_tax_78 hl (by decide) rfl (fun ls hl => ?_)
          refine lv_iload hx hb dL_tax_80 (lv_at hl 6 rfl) ?_
          refine lv_iload hx hb dL_tax_82 (lv_at hl 0 rfl) ?_
          refine lv_bipush (v := nI 50) hx hb dL_tax_84 (by decide) ?_
          refine lv_iadd hx hb dL_tax_86 ?_
          refine lv_bipush (v := nI 100) hx hb dL_tax_87 (by decide) ?_
          refine lv_idiv hx hb dL_tax_89 (by decide) ?_
          refine lv_iadd hx hb dL_tax_90 ?_
          refine lv_istore (lv' := [(5, .int ((ltL (itsF (ga st 33) (ga st 31) i o) k) + (((itsF (ga st 33) (ga st 31) i o k) + (nI 50)) / (nI 100)))), (9, .int (itsF (ga st 33) (ga st 31) i o k)), (0, .ref (ad2 31)), (1, .ref (ad2 32)), (2, .ref (ad2 33)), (3, .int (nI i)), (4, .ref (ad2 kb)), (6, .int (ltA (itsF (ga st 33) (ga st 31) i o) k)), (7, .ref (ad2 41)), (8, .int (nI k))]) hx hb dL_tax_91 hl (by decide) rfl (fun ls hl => ?_)
          refine lv_iload hx hb dL_tax_93 (lv_at hl 7 rfl) ?_
          refine lv_iload hx hb dL_tax_95 (lv_at hl 1 rfl) ?_
          refine lv_iadd hx hb dL_tax_97 ?_
          refine lv_istore (lv' := [(6, .int ((ltA (itsF (ga st 33) (ga st 31) i o) k) + (itsF (ga st 33) (ga st 31) i o k))), (5, .int ((ltL (itsF (ga st 33) (ga st 31) i o) k) + (((itsF (ga st 33) (ga st 31) i o k) + (nI 50)) / (nI 100)))), (9, .int (itsF (ga st 33) (ga st 31) i o k)), (0, .ref (ad2 31)), (1, .ref (ad2 32)), (2, .ref (ad2 33)), (3, .int (nI i)), (4, .ref (ad2 kb)), (7, .ref (ad2 41)), (8, .int (nI k))]) hx hb dL_tax_98 hl (by decide) rfl (fun ls hl => ?_)
          refine lv_aload hx hb dL_tax_100 (lv_at hl 8 rfl) ?_
          refine lv_aload_n hx hb dL_tax_102 rfl (lv_at hl 5 rfl) ?_
          refine lv_bipush (v := nI 9) hx hb dL_tax_103 (by decide) ?_
          refine lv_iload_n hx hb dL_tax_105 rfl (lv_at hl 6 rfl) ?_
          refine x_mulN hx hb dL_tax_106 ?_
          refine lv_iconst (v := nI 3) hx hb dL_tax_107 (by decide) ?_
          refine lv_iload hx hb dL_tax_108 (lv_at hl 9 rfl) ?_
          refine x_mulN hx hb dL_tax_110 ?_
          refine x_addN hx hb dL_tax_111 ?_
          refine x_ald C h (List.mem_append_left _ h33) (n := 64) rfl ((9 * i) + (3 * k)) (by omega) (by decide) rfl dL_tax_112 ?_
          refine x_topi (y := nI (kn k)) (by rw [hv1]; exact (hkn k (by omega)).2) ?_
          refine lv_dup2_11 hx hb dL_tax_113 rfl rfl ?_
          refine x_ald C h (List.mem_append_right _ (List.mem_singleton.mpr rfl)) (n := 4) rfl (kn k) (hkn k (by omega)).1 (by decide) rfl dL_tax_114 ?_
          rw [(show ga v1 41 = ltK (itsF (ga st 33) (ga st 31) i o) kn k by rw [hv1]; exact ga_self ..)]
          refine lv_iload hx hb dL_tax_115 (lv_at hl 2 rfl) ?_
          refine lv_iadd hx hb dL_tax_117 ?_
          refine x_ast C h (List.mem_append_right _ (List.mem_singleton.mpr rfl)) (n := 4) rfl (kn k) (hkn k (by omega)).1 (by decide) rfl dL_tax_118 (fun H locs u1 eu1 h => ?_)
          have e3 : ga u1 41 = (upd (ltK (itsF (ga st 33) (ga st 31) i o) kn k) (kn k) (((ltK (itsF (ga st 33) (ga st 31) i o) kn k) (kn k)) + (itsF (ga st 33) (ga st 31) i o k))) := by rw [eu1, ga_self, (show ga v1 41 = ltK (itsF (ga st 33) (ga st 31) i o) kn k by rw [hv1]; exact ga_self ..)]
          refine lv_iinc (v := nI (k + 1)) (lv' := [(8, .int (nI (k + 1))), (6, .int ((ltA (itsF (ga st 33) (ga st 31) i o) k) + (itsF (ga st 33) (ga st 31) i o k))), (5, .int ((ltL (itsF (ga st 33) (ga st 31) i o) k) + (((itsF (ga st 33) (ga st 31) i o k) + (nI 50)) / (nI 100)))), (9, .int (itsF (ga st 33) (ga st 31) i o k)), (0, .ref (ad2 31)), (1, .ref (ad2 32)), (2, .ref (ad2 33)), (3, .int (nI i)), (4, .ref (ad2 kb)), (7, .ref (ad2 41))]) hx hb dL_tax_119 hl (k := 9) rfl (nI_add _ _) (by decide) rfl (fun ls hl => ?_)
          refine lv_goto (tgt := 14) hx hb dL_tax_122 (by decide) ?_
          exact ih14 u1 (k + 1) (by rw [eu1, hv1, sa_sa, ga_self]; rfl) (by omega) (by omega) H locs ls h (lv_sub hl [4, 5, 6, 7, 8, 2, 1, 9, 0] rfl)
        · have hj16 := (ho k (by omega)).2 j hok
          refine x_if_ge_t (tgt := 66) hx hb dL_tax_59 (by decide) (nI_pos' (by omega)) ?_
          refine lv_aload_n hx hb dL_tax_66 rfl (lv_at hl 0 rfl) ?_
          refine lv_iconst (v := nI 4) hx hb dL_tax_67 (by decide) ?_
          refine lv_aload hx hb dL_tax_68 (lv_at hl 4 rfl) ?_
          refine lv_iload hx hb dL_tax_70 (lv_at hl 8 rfl) ?_
          refine x_ald C h (List.mem_append_left _ hkb) (n := 4) hkdb k (by omega) (by decide) rfl dL_tax_72 ?_
          refine x_topi (y := nI j) (by rw [hv1, ga_sa, if_neg hkb41]; exact (ho k (by omega)).1.trans (by rw [hok]; rfl)) ?_
          refine x_mulN hx hb dL_tax_73 ?_
          refine lv_iconst (v := nI 2) hx hb dL_tax_74 (by decide) ?_
          refine x_addN hx hb dL_tax_75 ?_
          refine x_ald C h (List.mem_append_left _ h31) (n := 64) rfl (4 * j + 2) (by omega) (by decide) rfl dL_tax_76 ?_
          refine x_topi (y := ga st 31 (4 * j + 2)) (by rw [hv1]; rfl) ?_
          refine lv_imul hx hb dL_tax_77 ?_
          refine x_topi (y := itsF (ga st 33) (ga st 31) i o k) (by unfold itsF; rw [hok]; rfl) ?_
          refine lv_istore (lv' := [(9, .int (itsF (ga st 33) (ga st 31) i o k)), (0, .ref (ad2 31)), (1, .ref (ad2 32)), (2, .ref (ad2 33)), (3, .int (nI i)), (4, .ref (ad2 kb)), (5, .int (ltL (itsF (ga st 33) (ga st 31) i o) k)), (6, .int (ltA (itsF (ga st 33) (ga st 31) i o) k)), (7, .ref (ad2 41)), (8, .int (nI k))]) hx hb dL_tax_78 hl (by decide) rfl (fun ls hl => ?_)
          refine lv_iload hx hb dL_tax_80 (lv_at hl 6 rfl) ?_
          refine lv_iload hx hb dL_tax_82 (lv_at hl 0 rfl) ?_
          refine lv_bipush (v := nI 50) hx hb dL_tax_84 (by decide) ?_
          refine lv_iadd hx hb dL_tax_86 ?_
          refine lv_bipush (v := nI 100) hx hb dL_tax_87 (by decide) ?_
          refine lv_idiv hx hb dL_tax_89 (by decide) ?_
          refine lv_iadd hx hb dL_tax_90 ?_
          refine lv_istore (lv' := [(5, .int ((ltL (itsF (ga st 33) (ga st 31) i o) k) + (((itsF (ga st 33) (ga st 31) i o k) + (nI 50)) / (nI 100)))), (9, .int (itsF (ga st 33) (ga st 31) i o k)), (0, .ref (ad2 31)), (1, .ref (ad2 32)), (2, .ref (ad2 33)), (3, .int (nI i)), (4, .ref (ad2 kb)), (6, .int (ltA (itsF (ga st 33) (ga st 31) i o) k)), (7, .ref (ad2 41)), (8, .int (nI k))]) hx hb dL_tax_91 hl (by decide) rfl (fun ls hl => ?_)
          refine lv_iload hx hb dL_tax_93 (lv_at hl 7 rfl) ?_
          refine lv_iload hx hb dL_tax_95 (lv_at hl 1 rfl) ?_
          refine lv_iadd hx hb dL_tax_97 ?_
          refine lv_istore (lv' := [(6, .int ((ltA (itsF (ga st 33) (ga st 31) i o) k) + (itsF (ga st 33) (ga st 31) i o k))), (5, .int ((ltL (itsF (ga st 33) (ga st 31) i o) k) + (((itsF (ga st 33) (ga st 31) i o k) + (nI 50)) / (nI 100)))), (9, .int (itsF (ga st 33) (ga st 31) i o k)), (0, .ref (ad2 31)), (1, .ref (ad2 32)), (2, .ref (ad2 33)), (3, .int (nI i)), (4, .ref (ad2 kb)), (7, .ref (ad2 41)), (8, .int (nI k))]) hx hb dL_tax_98 hl (by decide) rfl (fun ls hl => ?_)
          refine lv_aload hx hb dL_tax_100 (lv_at hl 8 rfl) ?_
          refine lv_aload_n hx hb dL_tax_102 rfl (lv_at hl 5 rfl) ?_
          refine lv_bipush (v := nI 9) hx hb dL_tax_103 (by decide) ?_
          refine lv_iload_n hx hb dL_tax_105 rfl (lv_at hl 6 rfl) ?_
          refine x_mulN hx hb dL_tax_106 ?_
          refine lv_iconst (v := nI 3) hx hb dL_tax_107 (by decide) ?_
          refine lv_iload hx hb dL_tax_108 (lv_at hl 9 rfl) ?_
          refine x_mulN hx hb dL_tax_110 ?_
          refine x_addN hx hb dL_tax_111 ?_
          refine x_ald C h (List.mem_append_left _ h33) (n := 64) rfl ((9 * i) + (3 * k)) (by omega) (by decide) rfl dL_tax_112 ?_
          refine x_topi (y := nI (kn k)) (by rw [hv1]; exact (hkn k (by omega)).2) ?_
          refine lv_dup2_11 hx hb dL_tax_113 rfl rfl ?_
          refine x_ald C h (List.mem_append_right _ (List.mem_singleton.mpr rfl)) (n := 4) rfl (kn k) (hkn k (by omega)).1 (by decide) rfl dL_tax_114 ?_
          rw [(show ga v1 41 = ltK (itsF (ga st 33) (ga st 31) i o) kn k by rw [hv1]; exact ga_self ..)]
          refine lv_iload hx hb dL_tax_115 (lv_at hl 2 rfl) ?_
          refine lv_iadd hx hb dL_tax_117 ?_
          refine x_ast C h (List.mem_append_right _ (List.mem_singleton.mpr rfl)) (n := 4) rfl (kn k) (hkn k (by omega)).1 (by decide) rfl dL_tax_118 (fun H locs u4 eu4 h => ?_)
          have e6 : ga u4 41 = (upd (ltK (itsF (ga st 33) (ga st 31) i o) kn k) (kn k) (((ltK (itsF (ga st 33) (ga st 31) i o) kn k) (kn k)) + (itsF (ga st 33) (ga st 31) i o k))) := by rw [eu4, ga_self, (show ga v1 41 = ltK (itsF (ga st 33) (ga st 31) i o) kn k by rw [hv1]; exact ga_self ..)]
          refine lv_iinc (v := nI (k + 1)) (lv' := [(8, .int (nI (k + 1))), (6, .int ((ltA (itsF (ga st 33) (ga st 31) i o) k) + (itsF (ga st 33) (ga st 31) i o k))), (5, .int ((ltL (itsF (ga st 33) (ga st 31) i o) k) + (((itsF (ga st 33) (ga st 31) i o k) + (nI 50)) / (nI 100)))), (9, .int (itsF (ga st 33) (ga st 31) i o k)), (0, .ref (ad2 31)), (1, .ref (ad2 32)), (2, .ref (ad2 33)), (3, .int (nI i)), (4, .ref (ad2 kb)), (7, .ref (ad2 41))]) hx hb dL_tax_119 hl (k := 9) rfl (nI_add _ _) (by decide) rfl (fun ls hl => ?_)
          refine lv_goto (tgt := 14) hx hb dL_tax_122 (by decide) ?_
          exact ih14 u4 (k + 1) (by rw [eu4, hv1, sa_sa, ga_self]; rfl) (by omega) (by omega) H locs ls h (lv_sub hl [4, 5, 6, 7, 8, 2, 1, 9, 0] rfl)
  exact L14 (n + 1) v0 0 ev0 (by omega) (by omega) H locs ls h (lv_sub hl [4, 5, 6, 7, 8, 3, 2, 1, 0] rfl)

set_option maxHeartbeats 4000000 in
set_option maxRecDepth 100000 in
theorem c_L_now (l : Launch) (D : va_G) (cy : Nat → ClassId) (ad : Nat → Nat) (Ls : List Nat) (st : XS) (h31 : 31 ∈ Ls) (h32 : 32 ∈ Ls) (h33 : 33 ∈ Ls) (h40n : 40 ∉ Ls) (h41n : 41 ∉ Ls) (hcl : xCl st Ls) (nt : Nat) (hnt15 : nt ≤ 15) (hRt : RtL (ga st 31) (ga st 13) (ga st 14) (ga st 15) (ga st 16) nt) (i : Nat) (hi7 : i < 7) (n : Nat) (hn3 : n ≤ 3) (hn32 : ga st 32 (7 * i + 2) = nI n) (w9 : Int32) (hw9 : ga st 32 (7 * i + 4) = w9) (p9 d9 : Int32) (hp9 : ga st 32 (7 * i + 3) = p9) (hd9 : ga st 32 (7 * i + 1) = d9) (kn : Nat → Nat) (hkn : ∀ k, k < n → kn k < 4 ∧ ga st 33 (9 * i + 3 * k) = nI (kn k)) : xAi l yL_now cL_now 7 (some .int) 1 2 8 D cy ad Ls st [.ref (ad 31), .int (nI nt), .ref (ad 32), .ref (ad 33), .int (nI i)] (fun r u => r = ltx w9 (itsF (ga st 33) (ga st 31) i (fun k => knoS st nt p9 (nI (kn k)) d9)) kn n ∧ u = st) := by
  intro sz
  refine x_of sz (by decide +kernel) (Nat.le_of_ble_eq_true rfl) ?_
  intro p e s m args below meth c ls hx hb hr hlocks C hsz h hl
  have hl : lv_has ls 7 [(0, .ref (ad 31)), (1, .int (nI nt)), (2, .ref (ad 32)), (3, .ref (ad 33)), (4, .int (nI i))] := hl
  obtain ⟨H, eH⟩ : ∃ z, z = s.heap := ⟨_, rfl⟩
  obtain ⟨locs, eL⟩ : ∃ z : List Loc, z = [] := ⟨_, rfl⟩
  rw [← eH, ← eL] at h
  rw [← eH, ← eL]
  clear eH eL
  refine lv_iconst (v := nI 4) hx hb dL_now_0 (by decide) ?_
  refine x_mkI C h hcl (k := 40) h40n rfl (by decide) (by decide) (by decide) dL_now_1 (fun ad2 H had h hcl2 => ?_)
  obtain ⟨v0, ev0⟩ : ∃ z9, z9 = sa st 40 (fun _ => 0) := ⟨_, rfl⟩
  rw [← ev0] at h
  have hl : lv_has ls 7 [(0, .ref (ad2 31)), (1, .int (nI nt)), (2, .ref (ad2 32)), (3, .ref (ad2 33)), (4, .int (nI i))] := by rw [had 31 h31, had 32 h32, had 33 h33]; exact hl
  refine lv_astore (lv' := [(5, .ref (ad2 40)), (0, .ref (ad2 31)), (1, .int (nI nt)), (2, .ref (ad2 32)), (3, .ref (ad2 33)), (4, .int (nI i))]) hx hb dL_now_3 hl (by decide) rfl (fun ls hl => ?_)
  refine lv_iconst (v := nI 0) hx hb dL_now_5 (by decide) ?_
  refine lv_istore (lv' := [(6, .int (nI 0)), (5, .ref (ad2 40)), (0, .ref (ad2 31)), (1, .int (nI nt)), (2, .ref (ad2 32)), (3, .ref (ad2 33)), (4, .int (nI i))]) hx hb dL_now_6 hl (by decide) rfl (fun ls hl => ?_)
  have L8 : ∀ (N8 : Nat) (v1 : XS) (k : Nat) (hv1 : v1 = sa st 40 (nwR (fun k => knoS st nt p9 (nI (kn k)) d9) k)) (hk : k ≤ n) (hN : n - k < N8) (H : Heap) (locs : List Loc) (ls : Array Slot), xH D cy ad2 (Ls ++ [40]) (XA ad Ls sz) s v1 H locs → lv_has ls 7 [(0, .ref (ad2 31)), (1, .int (nI nt)), (2, .ref (ad2 32)), (3, .ref (ad2 33)), (4, .int (nI i)), (5, .ref (ad2 40)), (6, .int (nI k))] → W p l e (xRX 1 2 8) s m args below meth c H locs (0 + 1) (0 + 4) (MQ below (va_Qi (fun r u => r = ltx w9 (itsF (ga st 33) (ga st 31) i (fun k => knoS st nt p9 (nI (kn k)) d9)) kn n ∧ u = st) (fun u => xPost D cy ad Ls (XA ad Ls sz) u) (XA ad Ls sz)) args s 2 8 (XA ad Ls sz)) (F0 m 8 ls []) := by
    intro N8
    induction N8 with
    | zero => intro v1 k hv1 hk hN; omega
    | succ N8 ih8 =>
      intro v1 k hv1 hk hN H locs ls h hl
      refine lv_iload hx hb dL_now_8 (lv_at hl 6 rfl) ?_
      refine lv_aload_n hx hb dL_now_10 rfl (lv_at hl 2 rfl) ?_
      refine lv_bipush (v := nI 7) hx hb dL_now_11 (by decide) ?_
      refine lv_iload hx hb dL_now_13 (lv_at hl 4 rfl) ?_
      refine x_mulN hx hb dL_now_15 ?_
      refine lv_iconst (v := nI 2) hx hb dL_now_16 (by decide) ?_
      refine x_addN hx hb dL_now_17 ?_
      refine x_ald C h (List.mem_append_left _ h32) (n := 64) rfl ((7 * i) + 2) (by omega) (by decide) rfl dL_now_18 ?_
      refine x_topi (y := nI n) (by rw [hv1]; exact hn32) ?_
      refine x_icmpN_ge (tgt := 68) hx hb dL_now_19 (by decide) (by omega) (by omega) (fun c19 => ?_) (fun c19 => ?_)
      · refine lv_aload_n hx hb dL_now_68 rfl (lv_at hl 0 rfl) ?_
        refine lv_aload_n hx hb dL_now_69 rfl (lv_at hl 2 rfl) ?_
        refine lv_aload_n hx hb dL_now_70 rfl (lv_at hl 3 rfl) ?_
        refine lv_iload hx hb dL_now_71 (lv_at hl 4 rfl) ?_
        refine lv_aload hx hb dL_now_73 (lv_at hl 5 rfl) ?_
        have hnwR : ∀ q, q < n → ga v1 40 q = oI ((fun k => knoS st nt p9 (nI (kn k)) d9) q) := fun q hq => by rw [hv1, ga_self, show k = n by omega]; exact nwR_at hq
        refine ca_L_16 C h (c_L_tax l D cy ad2 (Ls ++ [40]) v1 (List.mem_append_left _ h31) (List.mem_append_left _ h32) (List.mem_append_left _ h33) 40 (List.mem_append_right _ (List.mem_singleton.mpr rfl)) rfl (by decide) (fun q => (List.mem_append.mp q).elim h41n (fun q => absurd (List.mem_singleton.mp q) (by decide))) (by rw [hv1]; exact xCl_app (n := 4) hcl rfl (fun j hj => x_agsa (fun q => h40n (q ▸ hj)))) i hi7 n hn3 (by rw [hv1]; exact hn32) w9 (by rw [hv1]; exact hw9) kn (by rw [hv1]; exact hkn) (fun k => knoS st nt p9 (nI (kn k)) d9) (fun q hq => ⟨hnwR q hq, fun j hj => Nat.lt_of_lt_of_le (knO_lt _ _ _ _ _ _ _ _ hj) hnt15⟩)) (x_roomX (by omega)) (by decide) hl.1 (Nat.le_of_ble_eq_true rfl) dL_now_75 (fun r1 u1 H locs hp h => ?_)
        obtain ⟨er1, eu1⟩ := hp; rw [eu1] at h; clear eu1 u1; refine x_topi (y := ltx w9 (itsF (ga st 33) (ga st 31) i (fun k => knoS st nt p9 (nI (kn k)) d9)) kn n) (by rw [er1, hv1]; rfl) ?_; clear er1 r1
        have h := x_back (st := st) h had (fun j hj => by rw [hv1]; exact x_agsa (fun q => h40n (q ▸ hj))) hcl
        refine W.widen (k := 2) (n := 8) (by omega) (by omega) ?_
        exact x_iret C hr hlocks h ⟨rfl, rfl⟩ dL_now_78
      · refine lv_aload hx hb dL_now_22 (lv_at hl 5 rfl) ?_
        refine lv_iload hx hb dL_now_24 (lv_at hl 6 rfl) ?_
        refine lv_aload_n hx hb dL_now_26 rfl (lv_at hl 0 rfl) ?_
        refine lv_iload_n hx hb dL_now_27 rfl (lv_at hl 1 rfl) ?_
        refine lv_aload_n hx hb dL_now_28 rfl (lv_at hl 2 rfl) ?_
        refine lv_bipush (v := nI 7) hx hb dL_now_29 (by decide) ?_
        refine lv_iload hx hb dL_now_31 (lv_at hl 4 rfl) ?_
        refine x_mulN hx hb dL_now_33 ?_
        refine lv_iconst (v := nI 3) hx hb dL_now_34 (by decide) ?_
        refine x_addN hx hb dL_now_35 ?_
        refine x_ald C h (List.mem_append_left _ h32) (n := 64) rfl ((7 * i) + 3) (by omega) (by decide) rfl dL_now_36 ?_
        refine x_topi (y := p9) (by rw [hv1]; exact hp9) ?_
        refine lv_aload_n hx hb dL_now_37 rfl (lv_at hl 3 rfl) ?_
        refine lv_bipush (v := nI 9) hx hb dL_now_38 (by decide) ?_
        refine lv_iload hx hb dL_now_40 (lv_at hl 4 rfl) ?_
        refine x_mulN hx hb dL_now_42 ?_
        refine lv_iconst (v := nI 3) hx hb dL_now_43 (by decide) ?_
        refine lv_iload hx hb dL_now_44 (lv_at hl 6 rfl) ?_
        refine x_mulN hx hb dL_now_46 ?_
        refine x_addN hx hb dL_now_47 ?_
        refine x_ald C h (List.mem_append_left _ h33) (n := 64) rfl ((9 * i) + (3 * k)) (by omega) (by decide) rfl dL_now_48 ?_
        refine x_topi (y := nI (kn k)) (by rw [hv1]; exact (hkn k (by omega)).2) ?_
        refine lv_aload_n hx hb dL_now_49 rfl (lv_at hl 2 rfl) ?_
        refine lv_bipush (v := nI 7) hx hb dL_now_50 (by decide) ?_
        refine lv_iload hx hb dL_now_52 (lv_at hl 4 rfl) ?_
        refine x_mulN hx hb dL_now_54 ?_
        refine lv_iconst (v := nI 1) hx hb dL_now_55 (by decide) ?_
        refine x_addN hx hb dL_now_56 ?_
        refine x_ald C h (List.mem_append_left _ h32) (n := 64) rfl ((7 * i) + 1) (by omega) (by decide) rfl dL_now_57 ?_
        refine x_topi (y := d9) (by rw [hv1]; exact hd9) ?_
        refine cl_L_10 C h (c_L_telling l D cy ad2 (Ls ++ [40]) v1 (List.mem_append_left _ h31) nt hnt15 (by rw [hv1]; exact hRt) p9 (nI (kn k)) d9) (x_roomX (by omega)) ⟨Nat.le_of_ble_eq_true rfl, Nat.le_of_ble_eq_true rfl⟩ hl.1 (Nat.le_of_ble_eq_true rfl) dL_now_58 (fun r2 u1 H locs hp h => ?_)
        obtain ⟨er2, eu1⟩ := hp; rw [eu1] at h; clear eu1 u1; refine x_topi er2 ?_; clear er2 r2
        refine x_topi (y := oI (knoS st nt p9 (nI (kn k)) d9)) (by rw [hv1]; rfl) ?_
        refine x_ast C h (List.mem_append_right _ (List.mem_singleton.mpr rfl)) (n := 4) rfl k (by omega) (by decide) rfl dL_now_61 (fun H locs u3 eu3 h => ?_)
        refine lv_iinc (v := nI (k + 1)) (lv' := [(6, .int (nI (k + 1))), (0, .ref (ad2 31)), (1, .int (nI nt)), (2, .ref (ad2 32)), (3, .ref (ad2 33)), (4, .int (nI i)), (5, .ref (ad2 40))]) hx hb dL_now_62 hl (k := 6) rfl (nI_add _ _) (by decide) rfl (fun ls hl => ?_)
        refine lv_goto (tgt := 8) hx hb dL_now_65 (by decide) ?_
        exact ih8 u3 (k + 1) (by rw [eu3, hv1, sa_sa, ga_self]; rfl) (by omega) (by omega) H locs ls h (lv_sub hl [1, 2, 3, 4, 5, 6, 0] rfl)
  exact L8 (n + 1) v0 0 ev0 (by omega) (by omega) H locs ls h (lv_sub hl [2, 3, 4, 5, 6, 1, 0] rfl)
