/-! ===== the reference: taxBy, taxNow ===== -/
def mlS (st : XS) (b : Nat) : Nat → Int32
  | 0 => nI 0
  | k + 1 => mlS st b k + hun (maS st b k * ga st 70 k)
def mallS (st : XS) (b : Nat) : Nat → Int32
  | 0 => nI 0
  | k + 1 => mallS st b k + maS st b k * ga st 70 k
def msmF (st : XS) (kn : Nat → Nat) (b : Nat) : Nat → (Nat → Int32)
  | 0 => fup (ga st 69) (fun _ => nI 0) 4
  | k + 1 => upd (msmF st kn b k) (kn k) (msmF st kn b k (kn k) + maS st b k * ga st 70 k)
def mbkF (f : Nat → Int32) : Nat → Int32
  | 0 => nI 0
  | k + 1 => mbkF f k + hun (f k)
def mtxN (st : XS) (kn : Nat → Nat) (b n : Nat) : Int32 := if ga st 63 b = 0 then mlS st b n else if ga st 63 b = nI 1 then mbkF (msmF st kn b n) 4 else hun (mallS st b n)
/-- the rates of the lines as they are known now -/
def mlrF (st : XS) (nt b : Nat) : Nat → (Nat → Int32)
  | 0 => ga st 70
  | k + 1 => upd (mlrF st nt b k) k (mrS st (mtS st nt (ga st 62 b) (ga st 64 (6 * b + k)) (ga st 60 b)))

set_option maxHeartbeats 4000000 in
set_option maxRecDepth 100000 in
theorem c_X8_taxBy (l : Launch) (D : va_G) (cy : Nat → ClassId) (ad : Nat → Nat) (Ls : List Nat) (st : XS) (hM : ∀ k, k ∈ LsM → k ∈ Ls) (b n : Nat) (hb30 : b < 30) (hn6 : n ≤ 6) (hmany : ga st 61 b = nI n) (kn : Nat → Nat) (hkn : ∀ k, k < n → kn k < 4 ∧ ga st 64 (6 * b + k) = nI (kn k)) : xMi l yX8_taxBy cX8_taxBy 6 (some .int) 1 D cy ad Ls st [.ref (ad 30), .int (nI b)] (fun r u => r = mtxN st kn b n ∧ u = sa st 69 (msmF st kn b n)) := by
  intro sz
  refine x_of sz (by decide +kernel) (Nat.le_of_ble_eq_true rfl) ?_
  intro p e s m args below meth c ls hx hb hr hlocks C hsz h hl
  have hl : lv_has ls 6 [(0, .ref (ad 30)), (1, .int (nI b))] := hl
  obtain ⟨H, eH⟩ : ∃ z, z = s.heap := ⟨_, rfl⟩
  obtain ⟨locs, eL⟩ : ∃ z : List Loc, z = [] := ⟨_, rfl⟩
  rw [← eH, ← eL] at h
  rw [← eH, ← eL]
  clear eH eL
  refine lv_iconst (v := nI 0) hx hb dX8_taxBy_0 (by decide) ?_
  refine lv_istore_n (lv' := [(2, .int (nI 0)), (0, .ref (ad 30)), (1, .int (nI b))]) hx hb dX8_taxBy_1 rfl hl (by decide) rfl (fun ls hl => ?_)
  refine lv_iconst (v := nI 0) hx hb dX8_taxBy_2 (by decide) ?_
  refine lv_istore_n (lv' := [(3, .int (nI 0)), (2, .int (nI 0)), (0, .ref (ad 30)), (1, .int (nI b))]) hx hb dX8_taxBy_3 rfl hl (by decide) rfl (fun ls hl => ?_)
  refine lv_iconst (v := nI 0) hx hb dX8_taxBy_4 (by decide) ?_
  refine lv_istore (lv' := [(4, .int (nI 0)), (3, .int (nI 0)), (2, .int (nI 0)), (0, .ref (ad 30)), (1, .int (nI b))]) hx hb dX8_taxBy_5 hl (by decide) rfl (fun ls hl => ?_)
  have L7 : ∀ (N7 : Nat) (v1 : XS) (i1 : Nat) (hv1 : v1 = sa st 69 (fup (ga st 69) (fun _ => nI 0) i1)) (hi1 : i1 ≤ 4) (hN : 4 - i1 < N7) (H : Heap) (locs : List Loc) (ls : Array Slot), xH D cy ad Ls (XA ad Ls sz) s v1 H locs → lv_has ls 6 [(0, .ref (ad 30)), (1, .int (nI b)), (2, .int (nI 0)), (3, .int (nI 0)), (4, .int (nI i1))] → W p l e (xR 1) s m args below meth c H locs 0 0 (MQ below (va_Qi (fun r u => r = mtxN st kn b n ∧ u = sa st 69 (msmF st kn b n)) (fun u => xPost D cy ad Ls (XA ad Ls sz) u) (XA ad Ls sz)) args s 0 0 (XA ad Ls sz)) (F0 m 7 ls []) := by
    intro N7
    induction N7 with
    | zero => intro v1 i1 hv1 hi1 hN; omega
    | succ N7 ih7 =>
      intro v1 i1 hv1 hi1 hN H locs ls h hl
      refine lv_iload hx hb dX8_taxBy_7 (lv_at hl 4 rfl) ?_
      refine lv_iconst (v := nI 4) hx hb dX8_taxBy_9 (by decide) ?_
      refine x_icmpN_ge (tgt := 27) hx hb dX8_taxBy_10 (by decide) (by omega) (by omega) (fun c10 => ?_) (fun c10 => ?_)
      · refine lv_iconst (v := nI 0) hx hb dX8_taxBy_27 (by decide) ?_
        refine lv_istore (lv' := [(4, .int (nI 0)), (0, .ref (ad 30)), (1, .int (nI b)), (2, .int (nI 0)), (3, .int (nI 0))]) hx hb dX8_taxBy_28 hl (by decide) rfl (fun ls hl => ?_)
        have L30 : ∀ (N30 : Nat) (v2 : XS) (k : Nat) (hv2 : v2 = sa st 69 (msmF st kn b k)) (hk : k ≤ n) (hN : n - k < N30) (H : Heap) (locs : List Loc) (ls : Array Slot), xH D cy ad Ls (XA ad Ls sz) s v2 H locs → lv_has ls 6 [(0, .ref (ad 30)), (1, .int (nI b)), (2, .int (mlS st b k)), (3, .int (mallS st b k)), (4, .int (nI k))] → W p l e (xR 1) s m args below meth c H locs 0 0 (MQ below (va_Qi (fun r u => r = mtxN st kn b n ∧ u = sa st 69 (msmF st kn b n)) (fun u => xPost D cy ad Ls (XA ad Ls sz) u) (XA ad Ls sz)) args s 0 0 (XA ad Ls sz)) (F0 m 30 ls []) := by
          intro N30
          induction N30 with
          | zero => intro v2 k hv2 hk hN; omega
          | succ N30 ih30 =>
            intro v2 k hv2 hk hN H locs ls h hl
            refine lv_iload hx hb dX8_taxBy_30 (lv_at hl 4 rfl) ?_
            refine lv_aload_n hx hb dX8_taxBy_32 rfl (lv_at hl 0 rfl) ?_
            refine gf_X8_71 C h (hM 30 (by decide)) rfl (k2 := 61) rfl dX8_taxBy_33 ?_
            refine lv_iload_n hx hb dX8_taxBy_36 rfl (lv_at hl 1 rfl) ?_
            refine x_ald C h (hM 61 (by decide)) (n := 30) rfl b (by omega) (by decide) rfl dX8_taxBy_37 ?_
            refine x_topi (y := nI n) (by rw [hv2]; exact hmany) ?_
            refine x_icmpN_ge (tgt := 99) hx hb dX8_taxBy_38 (by decide) (by omega) (by omega) (fun c38 => ?_) (fun c38 => ?_)
            · have ekn : k = n := by omega
              rw [ekn] at hl
              refine lv_iconst (v := nI 0) hx hb dX8_taxBy_99 (by decide) ?_
              refine lv_istore (lv' := [(4, .int (nI 0)), (0, .ref (ad 30)), (1, .int (nI b)), (2, .int (mlS st b n)), (3, .int (mallS st b n))]) hx hb dX8_taxBy_100 hl (by decide) rfl (fun ls hl => ?_)
              refine lv_iconst (v := nI 0) hx hb dX8_taxBy_102 (by decide) ?_
              refine lv_istore (lv' := [(5, .int (nI 0)), (4, .int (nI 0)), (0, .ref (ad 30)), (1, .int (nI b)), (2, .int (mlS st b n)), (3, .int (mallS st b n))]) hx hb dX8_taxBy_103 hl (by decide) rfl (fun ls hl => ?_)
              have L105 : ∀ (N105 : Nat) (v3 : XS) (i3 : Nat) (by9 : Int32) (hv3 : v3 = sa st 69 (msmF st kn b n)) (hby : by9 = mbkF (msmF st kn b n) i3) (hi3 : i3 ≤ 4) (hN : 4 - i3 < N105) (H : Heap) (locs : List Loc) (ls : Array Slot), xH D cy ad Ls (XA ad Ls sz) s v3 H locs → lv_has ls 6 [(0, .ref (ad 30)), (1, .int (nI b)), (2, .int (mlS st b n)), (3, .int (mallS st b n)), (4, .int by9), (5, .int (nI i3))] → W p l e (xR 1) s m args below meth c H locs 0 0 (MQ below (va_Qi (fun r u => r = mtxN st kn b n ∧ u = sa st 69 (msmF st kn b n)) (fun u => xPost D cy ad Ls (XA ad Ls sz) u) (XA ad Ls sz)) args s 0 0 (XA ad Ls sz)) (F0 m 105 ls []) := by
                intro N105
                induction N105 with
                | zero => intro v3 i3 by9 hv3 hby hi3 hN; omega
                | succ N105 ih105 =>
                  intro v3 i3 by9 hv3 hby hi3 hN H locs ls h hl
                  refine lv_iload hx hb dX8_taxBy_105 (lv_at hl 5 rfl) ?_
                  refine lv_iconst (v := nI 4) hx hb dX8_taxBy_107 (by decide) ?_
                  refine x_icmpN_ge (tgt := 132) hx hb dX8_taxBy_108 (by decide) (by omega) (by omega) (fun c108 => ?_) (fun c108 => ?_)
                  · refine lv_aload_n hx hb dX8_taxBy_132 rfl (lv_at hl 0 rfl) ?_
                    refine gf_X8_77 C h (hM 30 (by decide)) rfl (k2 := 63) rfl dX8_taxBy_133 ?_
                    refine lv_iload_n hx hb dX8_taxBy_136 rfl (lv_at hl 1 rfl) ?_
                    refine x_ald C h (hM 63 (by decide)) (n := 30) rfl b (by omega) (by decide) rfl dX8_taxBy_137 ?_
                    refine x_topi (y := ga st 63 b) (by rw [hv3]; rfl) ?_
                    refine lv_if_ne (tgt := 145) hx hb dX8_taxBy_138 (by decide) (fun c138 => ?_) (fun c138 => ?_)
                    · refine lv_aload_n hx hb dX8_taxBy_145 rfl (lv_at hl 0 rfl) ?_
                      refine gf_X8_77 C h (hM 30 (by decide)) rfl (k2 := 63) rfl dX8_taxBy_146 ?_
                      refine lv_iload_n hx hb dX8_taxBy_149 rfl (lv_at hl 1 rfl) ?_
                      refine x_ald C h (hM 63 (by decide)) (n := 30) rfl b (by omega) (by decide) rfl dX8_taxBy_150 ?_
                      refine x_topi (y := ga st 63 b) (by rw [hv3]; rfl) ?_
                      refine lv_iconst (v := nI 1) hx hb dX8_taxBy_151 (by decide) ?_
                      refine lv_icmp_ne (tgt := 160) hx hb dX8_taxBy_152 (by decide) (fun c152 => ?_) (fun c152 => ?_)
                      · refine lv_iload_n hx hb dX8_taxBy_160 rfl (lv_at hl 3 rfl) ?_
                        refine cl_X8_207 C h (c_X8_rounded l D cy ad Ls v3 (mallS st b n)) (x_room (by omega)) ⟨Nat.zero_le _, Nat.zero_le _⟩ hl.1 (Nat.le_of_ble_eq_true rfl) dX8_taxBy_161 (fun r2 u1 H locs hp h => ?_)
                        obtain ⟨er2, eu1⟩ := hp; rw [eu1] at h; clear eu1 u1; refine x_topi er2 ?_; clear er2 r2
                        exact x_iret C hr hlocks h ⟨by rw [mtxN, if_neg c138, if_neg c152], hv3⟩ dX8_taxBy_164
                      · refine lv_iload hx hb dX8_taxBy_155 (lv_at hl 4 rfl) ?_
                        refine lv_goto (tgt := 164) hx hb dX8_taxBy_157 (by decide) ?_
                        exact x_iret C hr hlocks h ⟨by rw [mtxN, if_neg c138, if_pos c152, show 4 = i3 by omega, ← hby], hv3⟩ dX8_taxBy_164
                    · refine lv_iload_n hx hb dX8_taxBy_141 rfl (lv_at hl 2 rfl) ?_
                      refine lv_goto (tgt := 164) hx hb dX8_taxBy_142 (by decide) ?_
                      exact x_iret C hr hlocks h ⟨by rw [mtxN, if_pos c138], hv3⟩ dX8_taxBy_164
                  · refine lv_iload hx hb dX8_taxBy_111 (lv_at hl 4 rfl) ?_
                    refine lv_aload_n hx hb dX8_taxBy_113 rfl (lv_at hl 0 rfl) ?_
                    refine gf_X8_95 C h (hM 30 (by decide)) rfl (k2 := 69) rfl dX8_taxBy_114 ?_
                    refine lv_iload hx hb dX8_taxBy_117 (lv_at hl 5 rfl) ?_
                    refine x_ald C h (hM 69 (by decide)) (n := 4) rfl i3 (by omega) (by decide) rfl dX8_taxBy_119 ?_
                    rw [(show ga v3 69 = msmF st kn b n by rw [hv3]; exact ga_self ..)]
                    refine cl_X8_207 C h (c_X8_rounded l D cy ad Ls v3 ((msmF st kn b n) i3)) (x_room (by omega)) ⟨Nat.zero_le _, Nat.zero_le _⟩ hl.1 (Nat.le_of_ble_eq_true rfl) dX8_taxBy_120 (fun r4 u3 H locs hp h => ?_)
                    obtain ⟨er4, eu3⟩ := hp; rw [eu3] at h; clear eu3 u3; refine x_topi er4 ?_; clear er4 r4
                    refine lv_iadd hx hb dX8_taxBy_123 ?_
                    refine lv_istore (lv' := [(4, .int (by9 + (hun ((msmF st kn b n) i3)))), (0, .ref (ad 30)), (1, .int (nI b)), (2, .int (mlS st b n)), (3, .int (mallS st b n)), (5, .int (nI i3))]) hx hb dX8_taxBy_124 hl (by decide) rfl (fun ls hl => ?_)
                    refine lv_iinc (v := nI (i3 + 1)) (lv' := [(5, .int (nI (i3 + 1))), (4, .int (by9 + (hun ((msmF st kn b n) i3)))), (0, .ref (ad 30)), (1, .int (nI b)), (2, .int (mlS st b n)), (3, .int (mallS st b n))]) hx hb dX8_taxBy_126 hl (k := 5) rfl (nI_add _ _) (by decide) rfl (fun ls hl => ?_)
                    refine lv_goto (tgt := 105) hx hb dX8_taxBy_129 (by decide) ?_
                    exact ih105 v3 (i3 + 1) _ hv3 (by rw [mbkF, ← hby]) (by omega) (by omega) H locs ls h (lv_sub hl [2, 3, 4, 5, 1, 0] rfl)
              exact L105 5 v2 0 _ (by rw [hv2, show k = n by omega]) rfl (by omega) (by omega) H locs ls h (lv_sub hl [2, 3, 4, 5, 1, 0] rfl)
            · refine lv_aload_n hx hb dX8_taxBy_41 rfl (lv_at hl 0 rfl) ?_
              refine lv_iload_n hx hb dX8_taxBy_42 rfl (lv_at hl 1 rfl) ?_
              refine lv_iload hx hb dX8_taxBy_43 (lv_at hl 4 rfl) ?_
              refine cl_X8_203 C h (hM 30 (by decide)) rfl (c_X8_amount l D cy ad Ls v2 hM b k (by omega) (by omega)) (x_room (by omega)) ⟨Nat.zero_le _, Nat.zero_le _⟩ hl.1 (Nat.le_of_ble_eq_true rfl) dX8_taxBy_45 (fun r6 u5 H locs hp h => ?_)
              obtain ⟨er6, eu5⟩ := hp; rw [eu5] at h; clear eu5 u5; refine x_topi er6 ?_; clear er6 r6
              refine x_topi (y := maS st b k) (by rw [hv2]; rfl) ?_
              refine lv_aload_n hx hb dX8_taxBy_48 rfl (lv_at hl 0 rfl) ?_
              refine gf_X8_98 C h (hM 30 (by decide)) rfl (k2 := 70) rfl dX8_taxBy_49 ?_
              refine lv_iload hx hb dX8_taxBy_52 (lv_at hl 4 rfl) ?_
              refine x_ald C h (hM 70 (by decide)) (n := 6) rfl k (by omega) (by decide) rfl dX8_taxBy_54 ?_
              refine x_topi (y := ga st 70 k) (by rw [hv2]; rfl) ?_
              refine lv_imul hx hb dX8_taxBy_55 ?_
              refine lv_istore (lv' := [(5, .int ((maS st b k) * (ga st 70 k))), (0, .ref (ad 30)), (1, .int (nI b)), (2, .int (mlS st b k)), (3, .int (mallS st b k)), (4, .int (nI k))]) hx hb dX8_taxBy_56 hl (by decide) rfl (fun ls hl => ?_)
              refine lv_iload_n hx hb dX8_taxBy_58 rfl (lv_at hl 3 rfl) ?_
              refine lv_iload hx hb dX8_taxBy_59 (lv_at hl 0 rfl) ?_
              refine cl_X8_207 C h (c_X8_rounded l D cy ad Ls v2 ((maS st b k) * (ga st 70 k))) (x_room (by omega)) ⟨Nat.zero_le _, Nat.zero_le _⟩ hl.1 (Nat.le_of_ble_eq_true rfl) dX8_taxBy_61 (fun r8 u7 H locs hp h => ?_)
              obtain ⟨er8, eu7⟩ := hp; rw [eu7] at h; clear eu7 u7; refine x_topi er8 ?_; clear er8 r8
              refine lv_iadd hx hb dX8_taxBy_64 ?_
              refine lv_istore_n (lv' := [(2, .int ((mlS st b k) + (hun ((maS st b k) * (ga st 70 k))))), (5, .int ((maS st b k) * (ga st 70 k))), (0, .ref (ad 30)), (1, .int (nI b)), (3, .int (mallS st b k)), (4, .int (nI k))]) hx hb dX8_taxBy_65 rfl hl (by decide) rfl (fun ls hl => ?_)
              refine lv_iload_n hx hb dX8_taxBy_66 rfl (lv_at hl 4 rfl) ?_
              refine lv_iload hx hb dX8_taxBy_67 (lv_at hl 1 rfl) ?_
              refine lv_iadd hx hb dX8_taxBy_69 ?_
              refine lv_istore_n (lv' := [(3, .int ((mallS st b k) + ((maS st b k) * (ga st 70 k)))), (2, .int ((mlS st b k) + (hun ((maS st b k) * (ga st 70 k))))), (5, .int ((maS st b k) * (ga st 70 k))), (0, .ref (ad 30)), (1, .int (nI b)), (4, .int (nI k))]) hx hb dX8_taxBy_70 rfl hl (by decide) rfl (fun ls hl => ?_)
              refine lv_aload_n hx hb dX8_taxBy_71 rfl (lv_at hl 3 rfl) ?_
              refine gf_X8_95 C h (hM 30 (by decide)) rfl (k2 := 69) rfl dX8_taxBy_72 ?_
              refine lv_aload_n hx hb dX8_taxBy_75 rfl (lv_at hl 3 rfl) ?_
              refine gf_X8_80 C h (hM 30 (by decide)) rfl (k2 := 64) rfl dX8_taxBy_76 ?_
              refine lv_bipush (v := nI 6) hx hb dX8_taxBy_79 (by decide) ?_
              refine lv_iload_n hx hb dX8_taxBy_81 rfl (lv_at hl 4 rfl) ?_
              refine x_mulN hx hb dX8_taxBy_82 ?_
              refine lv_iload hx hb dX8_taxBy_83 (lv_at hl 5 rfl) ?_
              refine x_addN hx hb dX8_taxBy_85 ?_
              refine x_ald C h (hM 64 (by decide)) (n := 180) rfl (6 * b + k) (by omega) (by decide) rfl dX8_taxBy_86 ?_
              refine x_topi (y := nI (kn k)) (by rw [hv2]; exact (hkn k (by omega)).2) ?_
              refine lv_dup2_11 hx hb dX8_taxBy_87 rfl rfl ?_
              refine x_ald C h (hM 69 (by decide)) (n := 4) rfl (kn k) (hkn k (by omega)).1 (by decide) rfl dX8_taxBy_88 ?_
              rw [(show ga v2 69 = msmF st kn b k by rw [hv2]; exact ga_self ..)]
              refine lv_iload hx hb dX8_taxBy_89 (lv_at hl 2 rfl) ?_
              refine lv_iadd hx hb dX8_taxBy_91 ?_
              refine x_ast C h (hM 69 (by decide)) (n := 4) rfl (kn k) (hkn k (by omega)).1 (by decide) rfl dX8_taxBy_92 (fun H locs u9 eu9 h => ?_)
              have e11 : ga u9 69 = (upd (msmF st kn b k) (kn k) (((msmF st kn b k) (kn k)) + ((maS st b k) * (ga st 70 k)))) := by rw [eu9, ga_self, (show ga v2 69 = msmF st kn b k by rw [hv2]; exact ga_self ..)]
              refine lv_iinc (v := nI (k + 1)) (lv' := [(4, .int (nI (k + 1))), (3, .int ((mallS st b k) + ((maS st b k) * (ga st 70 k)))), (2, .int ((mlS st b k) + (hun ((maS st b k) * (ga st 70 k))))), (5, .int ((maS st b k) * (ga st 70 k))), (0, .ref (ad 30)), (1, .int (nI b))]) hx hb dX8_taxBy_93 hl (k := 5) rfl (nI_add _ _) (by decide) rfl (fun ls hl => ?_)
              refine lv_goto (tgt := 30) hx hb dX8_taxBy_96 (by decide) ?_
              exact ih30 u9 (k + 1) (by rw [eu9, hv2, sa_sa, ga_self]; rfl) (by omega) (by omega) H locs ls h (lv_sub hl [4, 5, 2, 1, 0] rfl)
        exact L30 (n + 1) v1 0 (by rw [hv1, show i1 = 4 by omega]; rfl) (by omega) (by omega) H locs ls h (lv_sub hl [1, 2, 3, 4, 0] rfl)
      · refine lv_aload_n hx hb dX8_taxBy_13 rfl (lv_at hl 0 rfl) ?_
        refine gf_X8_95 C h (hM 30 (by decide)) rfl (k2 := 69) rfl dX8_taxBy_14 ?_
        refine lv_iload hx hb dX8_taxBy_17 (lv_at hl 4 rfl) ?_
        refine lv_iconst (v := nI 0) hx hb dX8_taxBy_19 (by decide) ?_
        refine x_ast C h (hM 69 (by decide)) (n := 4) rfl i1 (by omega) (by decide) rfl dX8_taxBy_20 (fun H locs u12 eu12 h => ?_)
        refine lv_iinc (v := nI (i1 + 1)) (lv' := [(4, .int (nI (i1 + 1))), (0, .ref (ad 30)), (1, .int (nI b)), (2, .int (nI 0)), (3, .int (nI 0))]) hx hb dX8_taxBy_21 hl (k := 4) rfl (nI_add _ _) (by decide) rfl (fun ls hl => ?_)
        refine lv_goto (tgt := 7) hx hb dX8_taxBy_24 (by decide) ?_
        exact ih7 u12 (i1 + 1) (by rw [eu12, hv1, ga_self, sa_sa]; rfl) (by omega) (by omega) H locs ls h (lv_sub hl [1, 2, 3, 4, 0] rfl)
  exact L7 5 st 0 (sa_id st 69).symm (by omega) (by omega) H locs ls h (lv_sub hl [3, 4, 2, 1, 0] rfl)

set_option maxHeartbeats 4000000 in
set_option maxRecDepth 100000 in
theorem c_X8_taxNow (l : Launch) (D : va_G) (cy : Nat → ClassId) (ad : Nat → Nat) (Ls : List Nat) (st : XS) (hM : ∀ k, k ∈ LsM → k ∈ Ls) (nt : Nat) (hnt60 : nt ≤ 60) (hn17 : gi st 17 30 = nI nt) (b n : Nat) (hb30 : b < 30) (hn6 : n ≤ 6) (hmany : ga st 61 b = nI n) (kn : Nat → Nat) (hkn : ∀ k, k < n → kn k < 4 ∧ ga st 64 (6 * b + k) = nI (kn k)) : xMi l yX8_taxNow cX8_taxNow 3 (some .int) 2 D cy ad Ls st [.ref (ad 30), .int (nI b)] (fun r u => r = mtxN (sa st 70 (mlrF st nt b n)) kn b n ∧ u = sa (sa st 70 (mlrF st nt b n)) 69 (msmF (sa st 70 (mlrF st nt b n)) kn b n)) := by
  intro sz
  refine x_of sz (by decide +kernel) (Nat.le_of_ble_eq_true rfl) ?_
  intro p e s m args below meth c ls hx hb hr hlocks C hsz h hl
  have hl : lv_has ls 3 [(0, .ref (ad 30)), (1, .int (nI b))] := hl
  obtain ⟨H, eH⟩ : ∃ z, z = s.heap := ⟨_, rfl⟩
  obtain ⟨locs, eL⟩ : ∃ z : List Loc, z = [] := ⟨_, rfl⟩
  rw [← eH, ← eL] at h
  rw [← eH, ← eL]
  clear eH eL
  refine lv_iconst (v := nI 0) hx hb dX8_taxNow_0 (by decide) ?_
  refine lv_istore_n (lv' := [(2, .int (nI 0)), (0, .ref (ad 30)), (1, .int (nI b))]) hx hb dX8_taxNow_1 rfl hl (by decide) rfl (fun ls hl => ?_)
  have L2 : ∀ (N2 : Nat) (v : XS) (k : Nat) (hv : v = sa st 70 (mlrF st nt b k)) (hk : k ≤ n) (hN : n - k < N2) (H : Heap) (locs : List Loc) (ls : Array Slot), xH D cy ad Ls (XA ad Ls sz) s v H locs → lv_has ls 3 [(0, .ref (ad 30)), (1, .int (nI b)), (2, .int (nI k))] → W p l e (xR 2) s m args below meth c H locs 0 0 (MQ below (va_Qi (fun r u => r = mtxN (sa st 70 (mlrF st nt b n)) kn b n ∧ u = sa (sa st 70 (mlrF st nt b n)) 69 (msmF (sa st 70 (mlrF st nt b n)) kn b n)) (fun u => xPost D cy ad Ls (XA ad Ls sz) u) (XA ad Ls sz)) args s 0 0 (XA ad Ls sz)) (F0 m 2 ls []) := by
    intro N2
    induction N2 with
    | zero => intro v k hv hk hN; omega
    | succ N2 ih2 =>
      intro v k hv hk hN H locs ls h hl
      refine lv_iload_n hx hb dX8_taxNow_2 rfl (lv_at hl 2 rfl) ?_
      refine lv_aload_n hx hb dX8_taxNow_3 rfl (lv_at hl 0 rfl) ?_
      refine gf_X8_71 C h (hM 30 (by decide)) rfl (k2 := 61) rfl dX8_taxNow_4 ?_
      refine lv_iload_n hx hb dX8_taxNow_7 rfl (lv_at hl 1 rfl) ?_
      refine x_ald C h (hM 61 (by decide)) (n := 30) rfl b (by omega) (by decide) rfl dX8_taxNow_8 ?_
      refine x_topi (y := nI n) (by rw [hv]; exact hmany) ?_
      refine x_icmpN_ge (tgt := 55) hx hb dX8_taxNow_9 (by decide) (by omega) (by omega) (fun c9 => ?_) (fun c9 => ?_)
      · refine lv_aload_n hx hb dX8_taxNow_55 rfl (lv_at hl 0 rfl) ?_
        refine lv_iload_n hx hb dX8_taxNow_56 rfl (lv_at hl 1 rfl) ?_
        refine cl_X8_216 C h (hM 30 (by decide)) rfl (c_X8_taxBy l D cy ad Ls v hM b n hb30 hn6 (by rw [hv]; exact hmany) kn (by rw [hv]; exact hkn)) (x_room (by omega)) ⟨Nat.zero_le _, Nat.zero_le _⟩ hl.1 (Nat.le_of_ble_eq_true rfl) dX8_taxNow_57 (fun r2 u1 H locs hp h => ?_)
        obtain ⟨er, eu1⟩ := hp; refine x_topi er ?_; clear er r2
        exact x_iret C hr hlocks h (by rw [show k = n by omega] at hv; rw [← hv]; exact ⟨rfl, eu1⟩) dX8_taxNow_60
      · refine lv_aload_n hx hb dX8_taxNow_12 rfl (lv_at hl 0 rfl) ?_
        refine gf_X8_98 C h (hM 30 (by decide)) rfl (k2 := 70) rfl dX8_taxNow_13 ?_
        refine lv_iload_n hx hb dX8_taxNow_16 rfl (lv_at hl 2 rfl) ?_
        refine lv_aload_n hx hb dX8_taxNow_17 rfl (lv_at hl 0 rfl) ?_
        refine lv_aload_n hx hb dX8_taxNow_18 rfl (lv_at hl 0 rfl) ?_
        refine lv_aload_n hx hb dX8_taxNow_19 rfl (lv_at hl 0 rfl) ?_
        refine gf_X8_74 C h (hM 30 (by decide)) rfl (k2 := 62) rfl dX8_taxNow_20 ?_
        refine lv_iload_n hx hb dX8_taxNow_23 rfl (lv_at hl 1 rfl) ?_
        refine x_ald C h (hM 62 (by decide)) (n := 30) rfl b (by omega) (by decide) rfl dX8_taxNow_24 ?_
        refine x_topi (y := ga st 62 b) (by rw [hv]; rfl) ?_
        refine lv_aload_n hx hb dX8_taxNow_25 rfl (lv_at hl 0 rfl) ?_
        refine gf_X8_80 C h (hM 30 (by decide)) rfl (k2 := 64) rfl dX8_taxNow_26 ?_
        refine lv_bipush (v := nI 6) hx hb dX8_taxNow_29 (by decide) ?_
        refine lv_iload_n hx hb dX8_taxNow_31 rfl (lv_at hl 1 rfl) ?_
        refine x_mulN hx hb dX8_taxNow_32 ?_
        refine lv_iload_n hx hb dX8_taxNow_33 rfl (lv_at hl 2 rfl) ?_
        refine x_addN hx hb dX8_taxNow_34 ?_
        refine x_ald C h (hM 64 (by decide)) (n := 180) rfl (6 * b + k) (by omega) (by decide) rfl dX8_taxNow_35 ?_
        refine x_topi (y := ga st 64 (6 * b + k)) (by rw [hv]; rfl) ?_
        refine lv_aload_n hx hb dX8_taxNow_36 rfl (lv_at hl 0 rfl) ?_
        refine gf_X8_68 C h (hM 30 (by decide)) rfl (k2 := 60) rfl dX8_taxNow_37 ?_
        refine lv_iload_n hx hb dX8_taxNow_40 rfl (lv_at hl 1 rfl) ?_
        refine x_ald C h (hM 60 (by decide)) (n := 30) rfl b (by omega) (by decide) rfl dX8_taxNow_41 ?_
        refine x_topi (y := ga st 60 b) (by rw [hv]; rfl) ?_
        refine cl_X8_196 C h (hM 30 (by decide)) rfl (c_X8_tellingOf l D cy ad Ls v hM nt hnt60 (by rw [hv]; exact hn17) (ga st 62 b) (ga st 64 (6 * b + k)) (ga st 60 b)) (x_room (by omega)) ⟨Nat.zero_le _, Nat.zero_le _⟩ hl.1 (Nat.le_of_ble_eq_true rfl) dX8_taxNow_42 (fun r4 u3 H locs hp h => ?_)
        obtain ⟨er4, eu3⟩ := hp; rw [eu3] at h; clear eu3 u3; refine x_topi er4 ?_; clear er4 r4
        refine x_topi (y := oI (mtS st nt (ga st 62 b) (ga st 64 (6 * b + k)) (ga st 60 b))) (by rw [hv]; rfl) ?_
        refine cl_X8_213 C h (hM 30 (by decide)) rfl (c_X8_rateOf l D cy ad Ls v hM (mtS st nt (ga st 62 b) (ga st 64 (6 * b + k)) (ga st 60 b)) (fun j hj => Nat.lt_of_lt_of_le (mtO_lt _ _ _ _ _ _ _ _ hj) hnt60)) (x_room (by omega)) ⟨Nat.zero_le _, Nat.zero_le _⟩ hl.1 (Nat.le_of_ble_eq_true rfl) dX8_taxNow_45 (fun r6 u5 H locs hp h => ?_)
        obtain ⟨er6, eu5⟩ := hp; rw [eu5] at h; clear eu5 u5; refine x_topi er6 ?_; clear er6 r6
        refine x_topi (y := mrS st (mtS st nt (ga st 62 b) (ga st 64 (6 * b + k)) (ga st 60 b))) (by rw [hv]; rfl) ?_
        refine x_ast C h (hM 70 (by decide)) (n := 6) rfl k (by omega) (by decide) rfl dX8_taxNow_48 (fun H locs u7 eu7 h => ?_)
        refine lv_iinc (v := nI (k + 1)) (lv' := [(2, .int (nI (k + 1))), (0, .ref (ad 30)), (1, .int (nI b))]) hx hb dX8_taxNow_49 hl (k := 2) rfl (nI_add _ _) (by decide) rfl (fun ls hl => ?_)
        refine lv_goto (tgt := 2) hx hb dX8_taxNow_52 (by decide) ?_
        exact ih2 u7 (k + 1) (by rw [eu7, hv, sa_sa, ga_self]; rfl) (by omega) (by omega) H locs ls h (lv_sub hl [1, 2, 0] rfl)
  exact L2 (n + 1) st 0 (sa_id st 70).symm (by omega) (by omega) H locs ls h (lv_sub hl [1, 2, 0] rfl)
