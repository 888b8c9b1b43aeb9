/-! ===== the reference: writing; its state; sums ===== -/
/-- at, value, line, loop, written, found -/
abbrev MW : Type := Int32 × Int64 × Int32 × Int32 × Int32 × Int32
def wwS (st : XS) (x : MW) : XS := si (si (si (si (si (sl st 50 30 x.2.1) 46 30 x.2.2.2.1) 45 30 x.2.2.1) 49 30 x.2.2.2.2.2) 47 30 x.2.2.2.2.1) 9 30 x.1
section WW
variable {st : XS} {a ln lo w f y : Int32} {v z : Int64}
theorem gi_ww (F k : Nat) : gi (wwS st (a, v, ln, lo, w, f)) F k = if F = 9 ∧ k = 30 then a else if F = 47 ∧ k = 30 then w else if F = 49 ∧ k = 30 then f else if F = 45 ∧ k = 30 then ln else if F = 46 ∧ k = 30 then lo else gi st F k := rfl
theorem gl_ww (F k : Nat) : gl (wwS st (a, v, ln, lo, w, f)) F k = if F = 50 ∧ k = 30 then v else gl st F k := rfl
theorem ga_ww (k : Nat) (x : MW) : ga (wwS st x) k = ga st k := rfl
theorem gi_ww9 : gi (wwS st (a, v, ln, lo, w, f)) 9 30 = a := by rw [gi_ww]; rfl
theorem gl_ww50 : gl (wwS st (a, v, ln, lo, w, f)) 50 30 = v := by rw [gl_ww]; rfl
theorem gi_ww45 : gi (wwS st (a, v, ln, lo, w, f)) 45 30 = ln := by rw [gi_ww]; rfl
theorem gi_ww46 : gi (wwS st (a, v, ln, lo, w, f)) 46 30 = lo := by rw [gi_ww]; rfl
theorem gi_ww47 : gi (wwS st (a, v, ln, lo, w, f)) 47 30 = w := by rw [gi_ww]; rfl
theorem gi_ww49 : gi (wwS st (a, v, ln, lo, w, f)) 49 30 = f := by rw [gi_ww]; rfl
theorem gi_wwo {F k : Nat} (h : ¬ (F = 9 ∨ F = 47 ∨ F = 49 ∨ F = 45 ∨ F = 46)) : gi (wwS st (a, v, ln, lo, w, f)) F k = gi st F k := by rw [gi_ww, if_neg (by omega), if_neg (by omega), if_neg (by omega), if_neg (by omega), if_neg (by omega)]
theorem ww_9 : si (wwS st (a, v, ln, lo, w, f)) 9 30 y = wwS st (y, v, ln, lo, w, f) := by
  refine XS_ext (fun F k => ?_) (fun _ _ => rfl) (fun _ _ => rfl) (fun _ => rfl) (fun _ => rfl)
  rw [gi_si, gi_ww, gi_ww]; repeat' split
  all_goals first | rfl | omega
theorem ww_50 : sl (wwS st (a, v, ln, lo, w, f)) 50 30 z = wwS st (a, z, ln, lo, w, f) := by
  refine XS_ext (fun _ _ => rfl) (fun F k => ?_) (fun _ _ => rfl) (fun _ => rfl) (fun _ => rfl)
  rw [gl_sl, gl_ww, gl_ww]; split <;> rfl
theorem ww_45 : si (wwS st (a, v, ln, lo, w, f)) 45 30 y = wwS st (a, v, y, lo, w, f) := by
  refine XS_ext (fun F k => ?_) (fun _ _ => rfl) (fun _ _ => rfl) (fun _ => rfl) (fun _ => rfl)
  rw [gi_si, gi_ww, gi_ww]; repeat' split
  all_goals first | rfl | omega
theorem ww_46 : si (wwS st (a, v, ln, lo, w, f)) 46 30 y = wwS st (a, v, ln, y, w, f) := by
  refine XS_ext (fun F k => ?_) (fun _ _ => rfl) (fun _ _ => rfl) (fun _ => rfl) (fun _ => rfl)
  rw [gi_si, gi_ww, gi_ww]; repeat' split
  all_goals first | rfl | omega
theorem ww_47 : si (wwS st (a, v, ln, lo, w, f)) 47 30 y = wwS st (a, v, ln, lo, y, f) := by
  refine XS_ext (fun F k => ?_) (fun _ _ => rfl) (fun _ _ => rfl) (fun _ => rfl) (fun _ => rfl)
  rw [gi_si, gi_ww, gi_ww]; repeat' split
  all_goals first | rfl | omega
theorem ww_49 : si (wwS st (a, v, ln, lo, w, f)) 49 30 y = wwS st (a, v, ln, lo, w, y) := by
  refine XS_ext (fun F k => ?_) (fun _ _ => rfl) (fun _ _ => rfl) (fun _ => rfl) (fun _ => rfl)
  rw [gi_si, gi_ww, gi_ww]; repeat' split
  all_goals first | rfl | omega
theorem ww_mw (x : Int32 × Int32) : mwS (wwS st (a, v, ln, lo, w, f)) x = wwS st (a, v, ln, lo, x.1, x.2) := by unfold mwS; rw [ww_49, ww_47]
theorem ww_m : wwS st (a, v, ln, lo, w, f) = mwS (wwS st (a, v, ln, lo, w, f)) (w, f) := (ww_mw (w, f)).symm
end WW
theorem msS_K {st u : XS} (h : ∀ k, ga u k = ga st k) (b : Nat) : ∀ n, msS u b n = msS st b n := by
  intro n
  induction n with
  | zero => rfl
  | succ n ih => rw [msS, msS, ih, maS, maS, h, h]
theorem mnmS_K {st u : XS} (h : ∀ k, ga u k = ga st k) (b n : Nat) (us : Nat → Option Nat) (o : Option Nat) (x : Int32) : mnmS u b n us o x = mnmS st b n us o x := by
  have e1 : maS u b (oZ o) = maS st b (oZ o) := by rw [maS, maS, h, h]
  have e2 : mrS u (us (oZ o)) = mrS st (us (oZ o)) := by unfold mrS; split; rfl; rw [h]
  unfold mnmS
  rw [e1, e2, msS_K h, h, h, h, h, h, h, h]
/-- a row from a place on -/
def wRo (st : XS) (k bs : Nat) : Nat → Int32 := fun i => ga st k (bs + i)
section KS
variable (X : Nat → Int32) (nm : Int32 → Int32) (ok : Int32 → Prop)
def kDg : Nat → Nat → Int64 → Nat × Int64
  | 0, a, v => (a, v)
  | n + 1, a, v => if inR (X a) (nI 48) (nI 57) then kDg n (a + 1) (10 * v + (X a).toInt64 - 48) else (a, v)
/-- a term from a to b, and its value -/
def KT (a b : Nat) (w : Int64) : Prop := b < 160 ∧ a < b ∧ ((inR (X a) (nI 48) (nI 57) = true ∧ inR (X b) (nI 48) (nI 57) = false ∧ ∃ n, kDg X n a 0 = (b, w)) ∨ (inR (X a) (nI 48) (nI 57) = false ∧ ok (X a) ∧ b = a + 1 ∧ w = (nm (X a)).toInt64))
/-- a sum from a on, with what was before; to a place, and its value -/
def KSn (c1 : Nat) (r1 : Int64) : Nat → Nat → Int32 → Int64 → Prop
  | 0, _, _, _ => False
  | n + 1, a, g, v => ∃ b w, KT X nm ok a b w ∧ ((¬ X b = nI 43 ∧ ¬ X b = nI 45 ∧ b = c1 ∧ v + g.toInt64 * w = r1) ∨ (X b = nI 43 ∧ KSn c1 r1 n (b + 1) (nI 1) (v + g.toInt64 * w)) ∨ (X b = nI 45 ∧ KSn c1 r1 n (b + 1) (-1) (v + g.toInt64 * w)))
def KS (c1 : Nat) (r1 : Int64) (a : Nat) (g : Int32) (v : Int64) : Prop := ∃ n, KSn X nm ok c1 r1 n a g v
theorem KS_ex {c1 : Nat} {r1 : Int64} {a : Nat} {g : Int32} {v : Int64} (h : KS X nm ok c1 r1 a g v) : ∃ b w, KT X nm ok a b w ∧ ((¬ X b = nI 43 ∧ ¬ X b = nI 45 ∧ b = c1 ∧ v + g.toInt64 * w = r1) ∨ (X b = nI 43 ∧ KS X nm ok c1 r1 (b + 1) (nI 1) (v + g.toInt64 * w)) ∨ (X b = nI 45 ∧ KS X nm ok c1 r1 (b + 1) (-1) (v + g.toInt64 * w))) := by
  obtain ⟨n, h⟩ := h
  cases n with
  | zero => exact h.elim
  | succ n =>
    obtain ⟨b, w, h1, h2⟩ := h
    refine ⟨b, w, h1, ?_⟩
    rcases h2 with h2 | ⟨h2, h3⟩ | ⟨h2, h3⟩
    · exact Or.inl h2
    · exact Or.inr (Or.inl ⟨h2, n, h3⟩)
    · exact Or.inr (Or.inr ⟨h2, n, h3⟩)
theorem kDg_end {n a b : Nat} {v w : Int64} (h : kDg X n a v = (b, w)) (hd : inR (X a) (nI 48) (nI 57) = false) : a = b ∧ v = w := by
  cases n with
  | zero => exact ⟨congrArg Prod.fst h, congrArg Prod.snd h⟩
  | succ n => rw [kDg, hd] at h; exact ⟨congrArg Prod.fst h, congrArg Prod.snd h⟩
theorem kDg_go {n a b : Nat} {v w : Int64} (h : kDg X n a v = (b, w)) (hb : inR (X b) (nI 48) (nI 57) = false) (hd : inR (X a) (nI 48) (nI 57) = true) : ∃ n', n = n' + 1 ∧ kDg X n' (a + 1) (10 * v + (X a).toInt64 - 48) = (b, w) := by
  cases n with
  | zero => have e : a = b := congrArg Prod.fst h; rw [e, hb] at hd; cases hd
  | succ n => rw [kDg, hd] at h; exact ⟨n, rfl, h⟩
theorem kDg_le : ∀ {n a b : Nat} {v w : Int64}, kDg X n a v = (b, w) → a ≤ b := by
  intro n
  induction n with
  | zero => intro a b v w h; exact Nat.le_of_eq (congrArg Prod.fst h)
  | succ n ih =>
    intro a b v w h
    rw [kDg] at h
    split at h
    · have := ih h; omega
    · exact Nat.le_of_eq (congrArg Prod.fst h)
end KS


set_option maxHeartbeats 4000000 in
set_option maxRecDepth 100000 in
theorem c_X8_reckons (l : Launch) (D : va_G) (cy : Nat → ClassId) (ad : Nat → Nat) (Ls : List Nat) (st : XS) (hM : ∀ k, k ∈ LsM → k ∈ Ls) (b n : Nat) (hb30 : b < 30) (hn6 : n ≤ 6) (hmany : ga st 61 b = nI n) (o : Option Nat) (ho : ∀ j, o = some j → j < 6) (us : Nat → Option Nat) (hus : ∀ k, k < 6 → (∀ i, us k = some i → i < 60) ∧ ga st 67 (6 * b + k) = oI (us k)) (bs : Nat) (hbs : bs + 160 ≤ 960) (a0 : Nat) (ha0 : a0 ≤ 160) (v0 : Int64) (lo wx fx : Int32) (c1 : Nat) (r1 : Int64) (hK : KS (wRo st 35 bs) (mnmS st b n us o) (fun x => o = none → nmL0.contains x = true) c1 r1 a0 (nI 1) 0) : xMv l yX8_reckons cX8_reckons 7 3 D cy ad Ls (wwS st (nI a0, v0, oI o, lo, wx, fx)) [.ref (ad 30), .int (nI b), .int (nI bs)] (fun u => u = wwS st (nI c1, r1, oI o, lo, wx, fx)) := by
  intro sz
  refine x_of sz (by decide +kernel) (Nat.le_of_ble_eq_true rfl) ?_
  intro p e s m args below meth c ls hx hb hr hlocks C hsz h hl
  have hl : lv_has ls 7 [(0, .ref (ad 30)), (1, .int (nI b)), (2, .int (nI bs))] := hl
  obtain ⟨H, eH⟩ : ∃ z, z = s.heap := ⟨_, rfl⟩
  obtain ⟨locs, eL⟩ : ∃ z : List Loc, z = [] := ⟨_, rfl⟩
  rw [← eH, ← eL] at h
  rw [← eH, ← eL]
  clear eH eL
  obtain ⟨v, hv⟩ : ∃ v, v = wwS st (nI a0, v0, oI o, lo, wx, fx) := ⟨_, rfl⟩
  rw [← hv] at h
  refine lv_aload_n hx hb dX8_reckons_0 rfl (lv_at hl 0 rfl) ?_
  refine lv_lconst (v := 0) hx hb dX8_reckons_1 (by decide) ?_
  refine pf_X8_249 C h (hM 30 (by decide)) rfl dX8_reckons_2 (fun H locs u1 eu1 h => ?_)
  rw [hv, ww_50] at eu1
  refine lv_iconst (v := nI 1) hx hb dX8_reckons_5 (by decide) ?_
  refine lv_istore_n (lv' := [(3, .int (nI 1)), (0, .ref (ad 30)), (1, .int (nI b)), (2, .int (nI bs))]) hx hb dX8_reckons_6 rfl hl (by decide) rfl (fun ls hl => ?_)
  refine lv_iconst (v := nI 1) hx hb dX8_reckons_7 (by decide) ?_
  refine lv_istore (lv' := [(4, .int (nI 1)), (3, .int (nI 1)), (0, .ref (ad 30)), (1, .int (nI b)), (2, .int (nI bs))]) hx hb dX8_reckons_8 hl (by decide) rfl (fun ls hl => ?_)
  have L10 : ∀ (N10 : Nat) (v9 : XS) (a9 : Nat) (s9 : Int32) (w9 : Int64) (g9 : Bool) (ha9 : a9 ≤ 160) (hgt : g9 = true → KS (wRo st 35 bs) (mnmS st b n us o) (fun x => o = none → nmL0.contains x = true) c1 r1 a9 s9 w9) (hgf : g9 = false → a9 = c1 ∧ w9 = r1) (hv9 : v9 = wwS st (nI a9, w9, oI o, lo, wx, fx)) (hN : 161 - a9 < N10) (H : Heap) (locs : List Loc) (ls : Array Slot), xH D cy ad Ls (XA ad Ls sz) s v9 H locs → lv_has ls 7 [(0, .ref (ad 30)), (1, .int (nI b)), (2, .int (nI bs)), (3, .int s9), (4, .int (bi g9))] → W p l e (xR 3) s m args below meth c H locs 0 0 (MQ below (va_Qv (fun u => u = wwS st (nI c1, r1, oI o, lo, wx, fx)) (fun u => xPost D cy ad Ls (XA ad Ls sz) u) (XA ad Ls sz)) args s 0 0 (XA ad Ls sz)) (F0 m 10 ls []) := by
    intro N10
    induction N10 with
    | zero => intro v9 a9 s9 w9 g9 ha9 hgt hgf hv9 hN; omega
    | succ N10 ih10 =>
      intro v9 a9 s9 w9 g9 ha9 hgt hgf hv9 hN H locs ls h hl
      refine lv_iload hx hb dX8_reckons_10 (lv_at hl 4 rfl) ?_
      refine x_ifb_eq (tgt := 216) hx hb dX8_reckons_12 (by decide) (fun c12 => ?_) (fun c12 => ?_)
      · exact x_vret C hr hlocks h (by obtain ⟨e1, e2⟩ := hgf c12; rw [← e1, ← e2]; exact hv9) dX8_reckons_216
      · obtain ⟨b8, w8, ⟨hb8, hab, hT⟩, hR⟩ := KS_ex _ _ _ (hgt c12)
        rcases hT with ⟨t1, t2, n7, t3⟩ | ⟨t1, t2, t3, t4⟩
        · refine lv_lconst (v := 0) hx hb dX8_reckons_15 (by decide) ?_
          refine lv_lstore (lv' := [(5, .long 0), (0, .ref (ad 30)), (1, .int (nI b)), (2, .int (nI bs)), (3, .int s9), (4, .int (bi g9))]) hx hb dX8_reckons_16 hl (by decide) rfl (fun ls hl => ?_)
          refine lv_aload_n hx hb dX8_reckons_18 rfl (lv_at hl 1 rfl) ?_
          refine gf_X8_16 C h (hM 30 (by decide)) rfl (k2 := 35) rfl dX8_reckons_19 ?_
          refine lv_iload_n hx hb dX8_reckons_22 rfl (lv_at hl 3 rfl) ?_
          refine lv_aload_n hx hb dX8_reckons_23 rfl (lv_at hl 1 rfl) ?_
          refine gf_X8_134 C h (hM 30 (by decide)) rfl dX8_reckons_24 ?_
          refine x_topi (y := nI a9) (by rw [hv9]; exact gi_ww9) ?_
          refine x_addN hx hb dX8_reckons_27 ?_
          refine x_ald C h (hM 35 (by decide)) (n := 960) rfl (bs + a9) (by omega) (by decide) rfl dX8_reckons_28 ?_
          refine x_topi (y := ga st 35 (bs + a9)) (by rw [hv9]; rfl) ?_
          refine x_topi (y := wRo st 35 bs a9) rfl ?_
          refine cl_X8_141 C h (c_X8_isDigit l D cy ad Ls v9 (wRo st 35 bs a9)) (x_room (by omega)) ⟨Nat.zero_le _, Nat.zero_le _⟩ hl.1 (Nat.le_of_ble_eq_true rfl) dX8_reckons_29 (fun r3 u2 H locs hp h => ?_)
          obtain ⟨er3, eu2⟩ := hp; rw [eu2] at h; clear eu2 u2; refine x_topi er3 ?_; clear er3 r3
          refine x_ifb_eq (tgt := 90) hx hb dX8_reckons_32 (by decide) (fun z9 => absurd (t1.symm.trans z9) (by decide)) (fun _ => ?_)
          have L35 : ∀ (N35 : Nat) (v8 : XS) (a8 : Nat) (w7 : Int64) (n8 : Nat) (hk8 : kDg (wRo st 35 bs) n8 a8 w7 = (b8, w8)) (hv8 : v8 = wwS st (nI a8, w9, oI o, lo, wx, fx)) (hN : n8 < N35) (H : Heap) (locs : List Loc) (ls : Array Slot), xH D cy ad Ls (XA ad Ls sz) s v8 H locs → lv_has ls 7 [(0, .ref (ad 30)), (1, .int (nI b)), (2, .int (nI bs)), (3, .int s9), (4, .int (bi g9)), (5, .long w7)] → W p l e (xR 3) s m args below meth c H locs 0 0 (MQ below (va_Qv (fun u => u = wwS st (nI c1, r1, oI o, lo, wx, fx)) (fun u => xPost D cy ad Ls (XA ad Ls sz) u) (XA ad Ls sz)) args s 0 0 (XA ad Ls sz)) (F0 m 35 ls []) := by
            intro N35
            induction N35 with
            | zero => intro v8 a8 w7 n8 hk8 hv8 hN; omega
            | succ N35 ih35 =>
              intro v8 a8 w7 n8 hk8 hv8 hN H locs ls h hl
              have hle8 := kDg_le _ hk8
              refine lv_aload_n hx hb dX8_reckons_35 rfl (lv_at hl 0 rfl) ?_
              refine gf_X8_16 C h (hM 30 (by decide)) rfl (k2 := 35) rfl dX8_reckons_36 ?_
              refine lv_iload_n hx hb dX8_reckons_39 rfl (lv_at hl 2 rfl) ?_
              refine lv_aload_n hx hb dX8_reckons_40 rfl (lv_at hl 0 rfl) ?_
              refine gf_X8_134 C h (hM 30 (by decide)) rfl dX8_reckons_41 ?_
              refine x_topi (y := nI a8) (by rw [hv8]; exact gi_ww9) ?_
              refine x_addN hx hb dX8_reckons_44 ?_
              refine x_ald C h (hM 35 (by decide)) (n := 960) rfl (bs + a8) (by omega) (by decide) rfl dX8_reckons_45 ?_
              refine x_topi (y := ga st 35 (bs + a8)) (by rw [hv8]; rfl) ?_
              refine x_topi (y := wRo st 35 bs a8) rfl ?_
              refine cl_X8_141 C h (c_X8_isDigit l D cy ad Ls v8 (wRo st 35 bs a8)) (x_room (by omega)) ⟨Nat.zero_le _, Nat.zero_le _⟩ hl.1 (Nat.le_of_ble_eq_true rfl) dX8_reckons_46 (fun r5 u4 H locs hp h => ?_)
              obtain ⟨er5, eu4⟩ := hp; rw [eu4] at h; clear eu4 u4; refine x_topi er5 ?_; clear er5 r5
              refine x_ifb_eq (tgt := 119) hx hb dX8_reckons_49 (by decide) (fun c49 => ?_) (fun c49 => ?_)
              · obtain ⟨e1, e2⟩ := kDg_end _ hk8 c49
                rw [e1] at hv8
                replace hl : lv_has ls 7 [(0, .ref (ad 30)), (1, .int (nI b)), (2, .int (nI bs)), (3, .int s9), (4, .int (bi g9)), (5, .long w8)] := by rw [← e2]; exact hl
                refine lv_aload_n hx hb dX8_reckons_119 rfl (lv_at hl 0 rfl) ?_
                refine lv_dup hx hb dX8_reckons_120 rfl ?_
                refine gf_X8_249 C h (hM 30 (by decide)) rfl dX8_reckons_121 ?_
                refine x_topl (y := w9) (by rw [hv8]; exact gl_ww50) ?_
                refine lv_iload_n hx hb dX8_reckons_124 rfl (lv_at hl 3 rfl) ?_
                refine lv_i2l hx hb dX8_reckons_125 rfl ?_
                refine lv_lload hx hb dX8_reckons_126 (lv_at hl 5 rfl) ?_
                refine lv_lmul hx hb dX8_reckons_128 ?_
                refine lv_ladd hx hb dX8_reckons_129 ?_
                refine pf_X8_249 C h (hM 30 (by decide)) rfl dX8_reckons_130 (fun H locs u6 eu6 h => ?_)
                rw [hv8, ww_50] at eu6
                refine lv_aload_n hx hb dX8_reckons_133 rfl (lv_at hl 0 rfl) ?_
                refine gf_X8_16 C h (hM 30 (by decide)) rfl (k2 := 35) rfl dX8_reckons_134 ?_
                refine lv_iload_n hx hb dX8_reckons_137 rfl (lv_at hl 2 rfl) ?_
                refine lv_aload_n hx hb dX8_reckons_138 rfl (lv_at hl 0 rfl) ?_
                refine gf_X8_134 C h (hM 30 (by decide)) rfl dX8_reckons_139 ?_
                refine x_topi (y := nI b8) (by rw [eu6]; exact gi_ww9) ?_
                refine x_addN hx hb dX8_reckons_142 ?_
                refine x_ald C h (hM 35 (by decide)) (n := 960) rfl (bs + b8) (by omega) (by decide) rfl dX8_reckons_143 ?_
                refine x_topi (y := ga st 35 (bs + b8)) (by rw [eu6]; rfl) ?_
                refine x_topi (y := wRo st 35 bs b8) rfl ?_
                refine lv_bipush (v := nI 43) hx hb dX8_reckons_144 (by decide) ?_
                refine lv_icmp_eq (tgt := 165) hx hb dX8_reckons_146 (by decide) (fun c146 => ?_) (fun c146 => ?_)
                · refine lv_iconst (v := nI 1) hx hb dX8_reckons_165 (by decide) ?_
                  refine lv_goto (tgt := 170) hx hb dX8_reckons_166 (by decide) ?_
                  refine lv_istore (lv' := [(4, .int (nI 1)), (0, .ref (ad 30)), (1, .int (nI b)), (2, .int (nI bs)), (3, .int s9), (5, .long w8)]) hx hb dX8_reckons_170 hl (by decide) rfl (fun ls hl => ?_)
                  refine lv_aload_n hx hb dX8_reckons_172 rfl (lv_at hl 1 rfl) ?_
                  refine gf_X8_16 C h (hM 30 (by decide)) rfl (k2 := 35) rfl dX8_reckons_173 ?_
                  refine lv_iload_n hx hb dX8_reckons_176 rfl (lv_at hl 3 rfl) ?_
                  refine lv_aload_n hx hb dX8_reckons_177 rfl (lv_at hl 1 rfl) ?_
                  refine gf_X8_134 C h (hM 30 (by decide)) rfl dX8_reckons_178 ?_
                  refine x_topi (y := nI b8) (by rw [eu6]; exact gi_ww9) ?_
                  refine x_addN hx hb dX8_reckons_181 ?_
                  refine x_ald C h (hM 35 (by decide)) (n := 960) rfl (bs + b8) (by omega) (by decide) rfl dX8_reckons_182 ?_
                  refine x_topi (y := ga st 35 (bs + b8)) (by rw [eu6]; rfl) ?_
                  refine x_topi (y := wRo st 35 bs b8) rfl ?_
                  refine lv_bipush (v := nI 45) hx hb dX8_reckons_183 (by decide) ?_
                  refine lv_icmp_ne (tgt := 192) hx hb dX8_reckons_185 (by decide) (fun _ => ?_) (fun q9 => absurd (c146.symm.trans q9) (by decide))
                  refine lv_iconst (v := nI 1) hx hb dX8_reckons_192 (by decide) ?_
                  refine lv_istore_n (lv' := [(3, .int (nI 1)), (4, .int (nI 1)), (0, .ref (ad 30)), (1, .int (nI b)), (2, .int (nI bs)), (5, .long w8)]) hx hb dX8_reckons_193 rfl hl (by decide) rfl (fun ls hl => ?_)
                  refine lv_aload_n hx hb dX8_reckons_194 rfl (lv_at hl 2 rfl) ?_
                  refine lv_dup hx hb dX8_reckons_195 rfl ?_
                  refine gf_X8_134 C h (hM 30 (by decide)) rfl dX8_reckons_196 ?_
                  refine x_topi (y := nI b8) (by rw [eu6]; exact gi_ww9) ?_
                  refine lv_iload hx hb dX8_reckons_199 (lv_at hl 1 rfl) ?_
                  refine x_ifN_eq (tgt := 208) hx hb dX8_reckons_201 (by decide) (by decide) (fun z9 => absurd z9 (by decide)) (fun _ => ?_)
                  refine lv_iconst (v := nI 1) hx hb dX8_reckons_204 (by decide) ?_
                  refine lv_goto (tgt := 209) hx hb dX8_reckons_205 (by decide) ?_
                  refine x_addN hx hb dX8_reckons_209 ?_
                  refine pf_X8_134 C h (hM 30 (by decide)) rfl dX8_reckons_210 (fun H locs u7 eu7 h => ?_)
                  rw [eu6, ww_9] at eu7
                  refine lv_goto (tgt := 10) hx hb dX8_reckons_213 (by decide) ?_
                  exact ih10 u7 (b8 + 1) (nI 1) (w9 + (s9.toInt64 * w8)) true (by omega) (fun _ => hR.elim (fun q9 => absurd c146 q9.1) (fun q9 => q9.elim (fun q9 => q9.2) (fun q9 => absurd (c146.symm.trans q9.1) (by decide)))) (fun q9 => by cases q9) eu7 (by omega) H locs ls h (lv_sub hl [2, 3, 4, 0, 1] rfl)
                · refine lv_aload_n hx hb dX8_reckons_149 rfl (lv_at hl 0 rfl) ?_
                  refine gf_X8_16 C h (hM 30 (by decide)) rfl (k2 := 35) rfl dX8_reckons_150 ?_
                  refine lv_iload_n hx hb dX8_reckons_153 rfl (lv_at hl 2 rfl) ?_
                  refine lv_aload_n hx hb dX8_reckons_154 rfl (lv_at hl 0 rfl) ?_
                  refine gf_X8_134 C h (hM 30 (by decide)) rfl dX8_reckons_155 ?_
                  refine x_topi (y := nI b8) (by rw [eu6]; exact gi_ww9) ?_
                  refine x_addN hx hb dX8_reckons_158 ?_
                  refine x_ald C h (hM 35 (by decide)) (n := 960) rfl (bs + b8) (by omega) (by decide) rfl dX8_reckons_159 ?_
                  refine x_topi (y := ga st 35 (bs + b8)) (by rw [eu6]; rfl) ?_
                  refine x_topi (y := wRo st 35 bs b8) rfl ?_
                  refine lv_bipush (v := nI 45) hx hb dX8_reckons_160 (by decide) ?_
                  refine lv_icmp_ne (tgt := 169) hx hb dX8_reckons_162 (by decide) (fun c162 => ?_) (fun c162 => ?_)
                  · refine lv_iconst (v := nI 0) hx hb dX8_reckons_169 (by decide) ?_
                    refine lv_istore (lv' := [(4, .int (nI 0)), (0, .ref (ad 30)), (1, .int (nI b)), (2, .int (nI bs)), (3, .int s9), (5, .long w8)]) hx hb dX8_reckons_170 hl (by decide) rfl (fun ls hl => ?_)
                    refine lv_aload_n hx hb dX8_reckons_172 rfl (lv_at hl 1 rfl) ?_
                    refine gf_X8_16 C h (hM 30 (by decide)) rfl (k2 := 35) rfl dX8_reckons_173 ?_
                    refine lv_iload_n hx hb dX8_reckons_176 rfl (lv_at hl 3 rfl) ?_
                    refine lv_aload_n hx hb dX8_reckons_177 rfl (lv_at hl 1 rfl) ?_
                    refine gf_X8_134 C h (hM 30 (by decide)) rfl dX8_reckons_178 ?_
                    refine x_topi (y := nI b8) (by rw [eu6]; exact gi_ww9) ?_
                    refine x_addN hx hb dX8_reckons_181 ?_
                    refine x_ald C h (hM 35 (by decide)) (n := 960) rfl (bs + b8) (by omega) (by decide) rfl dX8_reckons_182 ?_
                    refine x_topi (y := ga st 35 (bs + b8)) (by rw [eu6]; rfl) ?_
                    refine x_topi (y := wRo st 35 bs b8) rfl ?_
                    refine lv_bipush (v := nI 45) hx hb dX8_reckons_183 (by decide) ?_
                    refine lv_icmp_ne (tgt := 192) hx hb dX8_reckons_185 (by decide) (fun _ => ?_) (fun q9 => absurd q9 c162)
                    refine lv_iconst (v := nI 1) hx hb dX8_reckons_192 (by decide) ?_
                    refine lv_istore_n (lv' := [(3, .int (nI 1)), (4, .int (nI 0)), (0, .ref (ad 30)), (1, .int (nI b)), (2, .int (nI bs)), (5, .long w8)]) hx hb dX8_reckons_193 rfl hl (by decide) rfl (fun ls hl => ?_)
                    refine lv_aload_n hx hb dX8_reckons_194 rfl (lv_at hl 2 rfl) ?_
                    refine lv_dup hx hb dX8_reckons_195 rfl ?_
                    refine gf_X8_134 C h (hM 30 (by decide)) rfl dX8_reckons_196 ?_
                    refine x_topi (y := nI b8) (by rw [eu6]; exact gi_ww9) ?_
                    refine lv_iload hx hb dX8_reckons_199 (lv_at hl 1 rfl) ?_
                    refine x_ifN_eq (tgt := 208) hx hb dX8_reckons_201 (by decide) (by decide) (fun _ => ?_) (fun z9 => absurd z9 (by decide))
                    refine lv_iconst (v := nI 0) hx hb dX8_reckons_208 (by decide) ?_
                    refine x_addN hx hb dX8_reckons_209 ?_
                    refine pf_X8_134 C h (hM 30 (by decide)) rfl dX8_reckons_210 (fun H locs u8 eu8 h => ?_)
                    rw [eu6, ww_9] at eu8
                    refine lv_goto (tgt := 10) hx hb dX8_reckons_213 (by decide) ?_
                    exact ih10 u8 b8 (nI 1) (w9 + (s9.toInt64 * w8)) false (by omega) (fun q9 => by cases q9) (fun _ => hR.elim (fun q9 => ⟨q9.2.2.1, q9.2.2.2⟩) (fun q9 => q9.elim (fun q9 => absurd q9.1 c146) (fun q9 => absurd q9.1 c162))) eu8 (by omega) H locs ls h (lv_sub hl [2, 3, 4, 0, 1] rfl)
                  · refine lv_iconst (v := nI 1) hx hb dX8_reckons_165 (by decide) ?_
                    refine lv_goto (tgt := 170) hx hb dX8_reckons_166 (by decide) ?_
                    refine lv_istore (lv' := [(4, .int (nI 1)), (0, .ref (ad 30)), (1, .int (nI b)), (2, .int (nI bs)), (3, .int s9), (5, .long w8)]) hx hb dX8_reckons_170 hl (by decide) rfl (fun ls hl => ?_)
                    refine lv_aload_n hx hb dX8_reckons_172 rfl (lv_at hl 1 rfl) ?_
                    refine gf_X8_16 C h (hM 30 (by decide)) rfl (k2 := 35) rfl dX8_reckons_173 ?_
                    refine lv_iload_n hx hb dX8_reckons_176 rfl (lv_at hl 3 rfl) ?_
                    refine lv_aload_n hx hb dX8_reckons_177 rfl (lv_at hl 1 rfl) ?_
                    refine gf_X8_134 C h (hM 30 (by decide)) rfl dX8_reckons_178 ?_
                    refine x_topi (y := nI b8) (by rw [eu6]; exact gi_ww9) ?_
                    refine x_addN hx hb dX8_reckons_181 ?_
                    refine x_ald C h (hM 35 (by decide)) (n := 960) rfl (bs + b8) (by omega) (by decide) rfl dX8_reckons_182 ?_
                    refine x_topi (y := ga st 35 (bs + b8)) (by rw [eu6]; rfl) ?_
                    refine x_topi (y := wRo st 35 bs b8) rfl ?_
                    refine lv_bipush (v := nI 45) hx hb dX8_reckons_183 (by decide) ?_
                    refine lv_icmp_ne (tgt := 192) hx hb dX8_reckons_185 (by decide) (fun q9 => absurd c162 q9) (fun _ => ?_)
                    refine lv_iconst (v := (-1)) hx hb dX8_reckons_188 (by decide) ?_
                    refine lv_goto (tgt := 193) hx hb dX8_reckons_189 (by decide) ?_
                    refine lv_istore_n (lv' := [(3, .int (-1)), (4, .int (nI 1)), (0, .ref (ad 30)), (1, .int (nI b)), (2, .int (nI bs)), (5, .long w8)]) hx hb dX8_reckons_193 rfl hl (by decide) rfl (fun ls hl => ?_)
                    refine lv_aload_n hx hb dX8_reckons_194 rfl (lv_at hl 2 rfl) ?_
                    refine lv_dup hx hb dX8_reckons_195 rfl ?_
                    refine gf_X8_134 C h (hM 30 (by decide)) rfl dX8_reckons_196 ?_
                    refine x_topi (y := nI b8) (by rw [eu6]; exact gi_ww9) ?_
                    refine lv_iload hx hb dX8_reckons_199 (lv_at hl 1 rfl) ?_
                    refine x_ifN_eq (tgt := 208) hx hb dX8_reckons_201 (by decide) (by decide) (fun z9 => absurd z9 (by decide)) (fun _ => ?_)
                    refine lv_iconst (v := nI 1) hx hb dX8_reckons_204 (by decide) ?_
                    refine lv_goto (tgt := 209) hx hb dX8_reckons_205 (by decide) ?_
                    refine x_addN hx hb dX8_reckons_209 ?_
                    refine pf_X8_134 C h (hM 30 (by decide)) rfl dX8_reckons_210 (fun H locs u9 eu9 h => ?_)
                    rw [eu6, ww_9] at eu9
                    refine lv_goto (tgt := 10) hx hb dX8_reckons_213 (by decide) ?_
                    exact ih10 u9 (b8 + 1) (-1) (w9 + (s9.toInt64 * w8)) true (by omega) (fun _ => hR.elim (fun q9 => absurd c162 q9.2.1) (fun q9 => q9.elim (fun q9 => absurd (c162.symm.trans q9.1) (by decide)) (fun q9 => q9.2))) (fun q9 => by cases q9) eu9 (by omega) H locs ls h (lv_sub hl [2, 3, 4, 0, 1] rfl)
              · obtain ⟨n6, rfl, k6⟩ := kDg_go _ hk8 t2 c49
                refine lv_ldc2 (v := 10) hx hb C.2.2.2.1 (C.2.2.2.2.1 _ tb1213) dX8_reckons_52 ?_
                refine lv_lload hx hb dX8_reckons_55 (lv_at hl 5 rfl) ?_
                refine lv_lmul hx hb dX8_reckons_57 ?_
                refine lv_aload_n hx hb dX8_reckons_58 rfl (lv_at hl 0 rfl) ?_
                refine gf_X8_16 C h (hM 30 (by decide)) rfl (k2 := 35) rfl dX8_reckons_59 ?_
                refine lv_iload_n hx hb dX8_reckons_62 rfl (lv_at hl 2 rfl) ?_
                refine lv_aload_n hx hb dX8_reckons_63 rfl (lv_at hl 0 rfl) ?_
                refine gf_X8_134 C h (hM 30 (by decide)) rfl dX8_reckons_64 ?_
                refine x_topi (y := nI a8) (by rw [hv8]; exact gi_ww9) ?_
                refine x_addN hx hb dX8_reckons_67 ?_
                refine x_ald C h (hM 35 (by decide)) (n := 960) rfl (bs + a8) (by omega) (by decide) rfl dX8_reckons_68 ?_
                refine x_topi (y := ga st 35 (bs + a8)) (by rw [hv8]; rfl) ?_
                refine x_topi (y := wRo st 35 bs a8) rfl ?_
                refine lv_i2l hx hb dX8_reckons_69 rfl ?_
                refine lv_ladd hx hb dX8_reckons_70 ?_
                refine lv_ldc2 (v := 48) hx hb C.2.2.2.1 (C.2.2.2.2.1 _ tb1214) dX8_reckons_71 ?_
                refine lv_lsub hx hb dX8_reckons_74 ?_
                refine lv_lstore (lv' := [(5, .long (((10 * w7) + ((wRo st 35 bs a8).toInt64)) - 48)), (0, .ref (ad 30)), (1, .int (nI b)), (2, .int (nI bs)), (3, .int s9), (4, .int (bi g9))]) hx hb dX8_reckons_75 hl (by decide) rfl (fun ls hl => ?_)
                refine lv_aload_n hx hb dX8_reckons_77 rfl (lv_at hl 1 rfl) ?_
                refine lv_dup hx hb dX8_reckons_78 rfl ?_
                refine gf_X8_134 C h (hM 30 (by decide)) rfl dX8_reckons_79 ?_
                refine x_topi (y := nI a8) (by rw [hv8]; exact gi_ww9) ?_
                refine lv_iconst (v := nI 1) hx hb dX8_reckons_82 (by decide) ?_
                refine x_addN hx hb dX8_reckons_83 ?_
                refine pf_X8_134 C h (hM 30 (by decide)) rfl dX8_reckons_84 (fun H locs u10 eu10 h => ?_)
                rw [hv8, ww_9] at eu10
                refine lv_goto (tgt := 35) hx hb dX8_reckons_87 (by decide) ?_
                exact ih35 u10 (a8 + 1) _ n6 k6 eu10 (by omega) H locs ls h (lv_sub hl [1, 2, 3, 4, 5, 0] rfl)
          exact L35 (n7 + 1) v9 a9 0 n7 t3 hv9 (by omega) H locs ls h (lv_sub hl [1, 2, 3, 4, 5, 0] rfl)
        · refine lv_lconst (v := 0) hx hb dX8_reckons_15 (by decide) ?_
          refine lv_lstore (lv' := [(5, .long 0), (0, .ref (ad 30)), (1, .int (nI b)), (2, .int (nI bs)), (3, .int s9), (4, .int (bi g9))]) hx hb dX8_reckons_16 hl (by decide) rfl (fun ls hl => ?_)
          refine lv_aload_n hx hb dX8_reckons_18 rfl (lv_at hl 1 rfl) ?_
          refine gf_X8_16 C h (hM 30 (by decide)) rfl (k2 := 35) rfl dX8_reckons_19 ?_
          refine lv_iload_n hx hb dX8_reckons_22 rfl (lv_at hl 3 rfl) ?_
          refine lv_aload_n hx hb dX8_reckons_23 rfl (lv_at hl 1 rfl) ?_
          refine gf_X8_134 C h (hM 30 (by decide)) rfl dX8_reckons_24 ?_
          refine x_topi (y := nI a9) (by rw [hv9]; exact gi_ww9) ?_
          refine x_addN hx hb dX8_reckons_27 ?_
          refine x_ald C h (hM 35 (by decide)) (n := 960) rfl (bs + a9) (by omega) (by decide) rfl dX8_reckons_28 ?_
          refine x_topi (y := ga st 35 (bs + a9)) (by rw [hv9]; rfl) ?_
          refine x_topi (y := wRo st 35 bs a9) rfl ?_
          refine cl_X8_141 C h (c_X8_isDigit l D cy ad Ls v9 (wRo st 35 bs a9)) (x_room (by omega)) ⟨Nat.zero_le _, Nat.zero_le _⟩ hl.1 (Nat.le_of_ble_eq_true rfl) dX8_reckons_29 (fun r12 u11 H locs hp h => ?_)
          obtain ⟨er12, eu11⟩ := hp; rw [eu11] at h; clear eu11 u11; refine x_topi er12 ?_; clear er12 r12
          refine x_ifb_eq (tgt := 90) hx hb dX8_reckons_32 (by decide) (fun _ => ?_) (fun z9 => absurd (t1.symm.trans z9) (by decide))
          refine lv_aload_n hx hb dX8_reckons_90 rfl (lv_at hl 1 rfl) ?_
          refine lv_iload_n hx hb dX8_reckons_91 rfl (lv_at hl 2 rfl) ?_
          refine lv_aload_n hx hb dX8_reckons_92 rfl (lv_at hl 1 rfl) ?_
          refine gf_X8_16 C h (hM 30 (by decide)) rfl (k2 := 35) rfl dX8_reckons_93 ?_
          refine lv_iload_n hx hb dX8_reckons_96 rfl (lv_at hl 3 rfl) ?_
          refine lv_aload_n hx hb dX8_reckons_97 rfl (lv_at hl 1 rfl) ?_
          refine gf_X8_134 C h (hM 30 (by decide)) rfl dX8_reckons_98 ?_
          refine x_topi (y := nI a9) (by rw [hv9]; exact gi_ww9) ?_
          refine x_addN hx hb dX8_reckons_101 ?_
          refine x_ald C h (hM 35 (by decide)) (n := 960) rfl (bs + a9) (by omega) (by decide) rfl dX8_reckons_102 ?_
          refine x_topi (y := ga st 35 (bs + a9)) (by rw [hv9]; rfl) ?_
          refine x_topi (y := wRo st 35 bs a9) rfl ?_
          refine cl_X8_257 C h (hM 30 (by decide)) rfl (c_X8_nameOf l D cy ad Ls v9 hM b n hb30 hn6 (by rw [hv9]; exact hmany) o ho (by rw [hv9]; exact gi_ww45) us (by rw [hv9]; exact hus) (wRo st 35 bs a9) t2) (x_room (by omega)) ⟨Nat.zero_le _, Nat.zero_le _⟩ hl.1 (Nat.le_of_ble_eq_true rfl) dX8_reckons_103 (fun r14 u13 H locs hp h => ?_)
          obtain ⟨er14, eu13⟩ := hp; rw [eu13] at h; clear eu13 u13; refine x_topi er14 ?_; clear er14 r14
          refine x_topi (y := mnmS st b n us o (wRo st 35 bs a9)) (by rw [hv9]; exact mnmS_K (st := st) (u := wwS st (nI a9, w9, oI o, lo, wx, fx)) (fun _ => rfl) _ _ _ _ _) ?_
          refine lv_i2l hx hb dX8_reckons_106 rfl ?_
          refine lv_lstore (lv' := [(5, .long ((mnmS st b n us o (wRo st 35 bs a9)).toInt64)), (0, .ref (ad 30)), (1, .int (nI b)), (2, .int (nI bs)), (3, .int s9), (4, .int (bi g9))]) hx hb dX8_reckons_107 hl (by decide) rfl (fun ls hl => ?_)
          refine lv_aload_n hx hb dX8_reckons_109 rfl (lv_at hl 1 rfl) ?_
          refine lv_dup hx hb dX8_reckons_110 rfl ?_
          refine gf_X8_134 C h (hM 30 (by decide)) rfl dX8_reckons_111 ?_
          refine x_topi (y := nI a9) (by rw [hv9]; exact gi_ww9) ?_
          refine lv_iconst (v := nI 1) hx hb dX8_reckons_114 (by decide) ?_
          refine x_addN hx hb dX8_reckons_115 ?_
          refine pf_X8_134 C h (hM 30 (by decide)) rfl dX8_reckons_116 (fun H locs u15 eu15 h => ?_)
          rw [hv9, ww_9] at eu15
          have e1 := t3.symm; have e2 := t4.symm
          rw [e1] at eu15
          replace hl : lv_has ls 7 [(5, .long w8), (0, .ref (ad 30)), (1, .int (nI b)), (2, .int (nI bs)), (3, .int s9), (4, .int (bi g9))] := by rw [← e2]; exact hl
          refine lv_aload_n hx hb dX8_reckons_119 rfl (lv_at hl 1 rfl) ?_
          refine lv_dup hx hb dX8_reckons_120 rfl ?_
          refine gf_X8_249 C h (hM 30 (by decide)) rfl dX8_reckons_121 ?_
          refine x_topl (y := w9) (by rw [eu15]; exact gl_ww50) ?_
          refine lv_iload_n hx hb dX8_reckons_124 rfl (lv_at hl 4 rfl) ?_
          refine lv_i2l hx hb dX8_reckons_125 rfl ?_
          refine lv_lload hx hb dX8_reckons_126 (lv_at hl 0 rfl) ?_
          refine lv_lmul hx hb dX8_reckons_128 ?_
          refine lv_ladd hx hb dX8_reckons_129 ?_
          refine pf_X8_249 C h (hM 30 (by decide)) rfl dX8_reckons_130 (fun H locs u16 eu16 h => ?_)
          rw [eu15, ww_50] at eu16
          refine lv_aload_n hx hb dX8_reckons_133 rfl (lv_at hl 1 rfl) ?_
          refine gf_X8_16 C h (hM 30 (by decide)) rfl (k2 := 35) rfl dX8_reckons_134 ?_
          refine lv_iload_n hx hb dX8_reckons_137 rfl (lv_at hl 3 rfl) ?_
          refine lv_aload_n hx hb dX8_reckons_138 rfl (lv_at hl 1 rfl) ?_
          refine gf_X8_134 C h (hM 30 (by decide)) rfl dX8_reckons_139 ?_
          refine x_topi (y := nI b8) (by rw [eu16]; exact gi_ww9) ?_
          refine x_addN hx hb dX8_reckons_142 ?_
          refine x_ald C h (hM 35 (by decide)) (n := 960) rfl (bs + b8) (by omega) (by decide) rfl dX8_reckons_143 ?_
          refine x_topi (y := ga st 35 (bs + b8)) (by rw [eu16]; rfl) ?_
          refine x_topi (y := wRo st 35 bs b8) rfl ?_
          refine lv_bipush (v := nI 43) hx hb dX8_reckons_144 (by decide) ?_
          refine lv_icmp_eq (tgt := 165) hx hb dX8_reckons_146 (by decide) (fun c146 => ?_) (fun c146 => ?_)
          · refine lv_iconst (v := nI 1) hx hb dX8_reckons_165 (by decide) ?_
            refine lv_goto (tgt := 170) hx hb dX8_reckons_166 (by decide) ?_
            refine lv_istore (lv' := [(4, .int (nI 1)), (5, .long w8), (0, .ref (ad 30)), (1, .int (nI b)), (2, .int (nI bs)), (3, .int s9)]) hx hb dX8_reckons_170 hl (by decide) rfl (fun ls hl => ?_)
            refine lv_aload_n hx hb dX8_reckons_172 rfl (lv_at hl 2 rfl) ?_
            refine gf_X8_16 C h (hM 30 (by decide)) rfl (k2 := 35) rfl dX8_reckons_173 ?_
            refine lv_iload_n hx hb dX8_reckons_176 rfl (lv_at hl 4 rfl) ?_
            refine lv_aload_n hx hb dX8_reckons_177 rfl (lv_at hl 2 rfl) ?_
            refine gf_X8_134 C h (hM 30 (by decide)) rfl dX8_reckons_178 ?_
            refine x_topi (y := nI b8) (by rw [eu16]; exact gi_ww9) ?_
            refine x_addN hx hb dX8_reckons_181 ?_
            refine x_ald C h (hM 35 (by decide)) (n := 960) rfl (bs + b8) (by omega) (by decide) rfl dX8_reckons_182 ?_
            refine x_topi (y := ga st 35 (bs + b8)) (by rw [eu16]; rfl) ?_
            refine x_topi (y := wRo st 35 bs b8) rfl ?_
            refine lv_bipush (v := nI 45) hx hb dX8_reckons_183 (by decide) ?_
            refine lv_icmp_ne (tgt := 192) hx hb dX8_reckons_185 (by decide) (fun _ => ?_) (fun q9 => absurd (c146.symm.trans q9) (by decide))
            refine lv_iconst (v := nI 1) hx hb dX8_reckons_192 (by decide) ?_
            refine lv_istore_n (lv' := [(3, .int (nI 1)), (4, .int (nI 1)), (5, .long w8), (0, .ref (ad 30)), (1, .int (nI b)), (2, .int (nI bs))]) hx hb dX8_reckons_193 rfl hl (by decide) rfl (fun ls hl => ?_)
            refine lv_aload_n hx hb dX8_reckons_194 rfl (lv_at hl 3 rfl) ?_
            refine lv_dup hx hb dX8_reckons_195 rfl ?_
            refine gf_X8_134 C h (hM 30 (by decide)) rfl dX8_reckons_196 ?_
            refine x_topi (y := nI b8) (by rw [eu16]; exact gi_ww9) ?_
            refine lv_iload hx hb dX8_reckons_199 (lv_at hl 1 rfl) ?_
            refine x_ifN_eq (tgt := 208) hx hb dX8_reckons_201 (by decide) (by decide) (fun z9 => absurd z9 (by decide)) (fun _ => ?_)
            refine lv_iconst (v := nI 1) hx hb dX8_reckons_204 (by decide) ?_
            refine lv_goto (tgt := 209) hx hb dX8_reckons_205 (by decide) ?_
            refine x_addN hx hb dX8_reckons_209 ?_
            refine pf_X8_134 C h (hM 30 (by decide)) rfl dX8_reckons_210 (fun H locs u17 eu17 h => ?_)
            rw [eu16, ww_9] at eu17
            refine lv_goto (tgt := 10) hx hb dX8_reckons_213 (by decide) ?_
            exact ih10 u17 (b8 + 1) (nI 1) (w9 + (s9.toInt64 * w8)) true (by omega) (fun _ => hR.elim (fun q9 => absurd c146 q9.1) (fun q9 => q9.elim (fun q9 => q9.2) (fun q9 => absurd (c146.symm.trans q9.1) (by decide)))) (fun q9 => by cases q9) eu17 (by omega) H locs ls h (lv_sub hl [3, 4, 5, 0, 1] rfl)
          · refine lv_aload_n hx hb dX8_reckons_149 rfl (lv_at hl 1 rfl) ?_
            refine gf_X8_16 C h (hM 30 (by decide)) rfl (k2 := 35) rfl dX8_reckons_150 ?_
            refine lv_iload_n hx hb dX8_reckons_153 rfl (lv_at hl 3 rfl) ?_
            refine lv_aload_n hx hb dX8_reckons_154 rfl (lv_at hl 1 rfl) ?_
            refine gf_X8_134 C h (hM 30 (by decide)) rfl dX8_reckons_155 ?_
            refine x_topi (y := nI b8) (by rw [eu16]; exact gi_ww9) ?_
            refine x_addN hx hb dX8_reckons_158 ?_
            refine x_ald C h (hM 35 (by decide)) (n := 960) rfl (bs + b8) (by omega) (by decide) rfl dX8_reckons_159 ?_
            refine x_topi (y := ga st 35 (bs + b8)) (by rw [eu16]; rfl) ?_
            refine x_topi (y := wRo st 35 bs b8) rfl ?_
            refine lv_bipush (v := nI 45) hx hb dX8_reckons_160 (by decide) ?_
            refine lv_icmp_ne (tgt := 169) hx hb dX8_reckons_162 (by decide) (fun c162 => ?_) (fun c162 => ?_)
            · refine lv_iconst (v := nI 0) hx hb dX8_reckons_169 (by decide) ?_
              refine lv_istore (lv' := [(4, .int (nI 0)), (5, .long w8), (0, .ref (ad 30)), (1, .int (nI b)), (2, .int (nI bs)), (3, .int s9)]) hx hb dX8_reckons_170 hl (by decide) rfl (fun ls hl => ?_)
              refine lv_aload_n hx hb dX8_reckons_172 rfl (lv_at hl 2 rfl) ?_
              refine gf_X8_16 C h (hM 30 (by decide)) rfl (k2 := 35) rfl dX8_reckons_173 ?_
              refine lv_iload_n hx hb dX8_reckons_176 rfl (lv_at hl 4 rfl) ?_
              refine lv_aload_n hx hb dX8_reckons_177 rfl (lv_at hl 2 rfl) ?_
              refine gf_X8_134 C h (hM 30 (by decide)) rfl dX8_reckons_178 ?_
              refine x_topi (y := nI b8) (by rw [eu16]; exact gi_ww9) ?_
              refine x_addN hx hb dX8_reckons_181 ?_
              refine x_ald C h (hM 35 (by decide)) (n := 960) rfl (bs + b8) (by omega) (by decide) rfl dX8_reckons_182 ?_
              refine x_topi (y := ga st 35 (bs + b8)) (by rw [eu16]; rfl) ?_
              refine x_topi (y := wRo st 35 bs b8) rfl ?_
              refine lv_bipush (v := nI 45) hx hb dX8_reckons_183 (by decide) ?_
              refine lv_icmp_ne (tgt := 192) hx hb dX8_reckons_185 (by decide) (fun _ => ?_) (fun q9 => absurd q9 c162)
              refine lv_iconst (v := nI 1) hx hb dX8_reckons_192 (by decide) ?_
              refine lv_istore_n (lv' := [(3, .int (nI 1)), (4, .int (nI 0)), (5, .long w8), (0, .ref (ad 30)), (1, .int (nI b)), (2, .int (nI bs))]) hx hb dX8_reckons_193 rfl hl (by decide) rfl (fun ls hl => ?_)
              refine lv_aload_n hx hb dX8_reckons_194 rfl (lv_at hl 3 rfl) ?_
              refine lv_dup hx hb dX8_reckons_195 rfl ?_
              refine gf_X8_134 C h (hM 30 (by decide)) rfl dX8_reckons_196 ?_
              refine x_topi (y := nI b8) (by rw [eu16]; exact gi_ww9) ?_
              refine lv_iload hx hb dX8_reckons_199 (lv_at hl 1 rfl) ?_
              refine x_ifN_eq (tgt := 208) hx hb dX8_reckons_201 (by decide) (by decide) (fun _ => ?_) (fun z9 => absurd z9 (by decide))
              refine lv_iconst (v := nI 0) hx hb dX8_reckons_208 (by decide) ?_
              refine x_addN hx hb dX8_reckons_209 ?_
              refine pf_X8_134 C h (hM 30 (by decide)) rfl dX8_reckons_210 (fun H locs u18 eu18 h => ?_)
              rw [eu16, ww_9] at eu18
              refine lv_goto (tgt := 10) hx hb dX8_reckons_213 (by decide) ?_
              exact ih10 u18 b8 (nI 1) (w9 + (s9.toInt64 * w8)) false (by omega) (fun q9 => by cases q9) (fun _ => hR.elim (fun q9 => ⟨q9.2.2.1, q9.2.2.2⟩) (fun q9 => q9.elim (fun q9 => absurd q9.1 c146) (fun q9 => absurd q9.1 c162))) eu18 (by omega) H locs ls h (lv_sub hl [3, 4, 5, 0, 1] rfl)
            · refine lv_iconst (v := nI 1) hx hb dX8_reckons_165 (by decide) ?_
              refine lv_goto (tgt := 170) hx hb dX8_reckons_166 (by decide) ?_
              refine lv_istore (lv' := [(4, .int (nI 1)), (5, .long w8), (0, .ref (ad 30)), (1, .int (nI b)), (2, .int (nI bs)), (3, .int s9)]) hx hb dX8_reckons_170 hl (by decide) rfl (fun ls hl => ?_)
              refine lv_aload_n hx hb dX8_reckons_172 rfl (lv_at hl 2 rfl) ?_
              refine gf_X8_16 C h (hM 30 (by decide)) rfl (k2 := 35) rfl dX8_reckons_173 ?_
              refine lv_iload_n hx hb dX8_reckons_176 rfl (lv_at hl 4 rfl) ?_
              refine lv_aload_n hx hb dX8_reckons_177 rfl (lv_at hl 2 rfl) ?_
              refine gf_X8_134 C h (hM 30 (by decide)) rfl dX8_reckons_178 ?_
              refine x_topi (y := nI b8) (by rw [eu16]; exact gi_ww9) ?_
              refine x_addN hx hb dX8_reckons_181 ?_
              refine x_ald C h (hM 35 (by decide)) (n := 960) rfl (bs + b8) (by omega) (by decide) rfl dX8_reckons_182 ?_
              refine x_topi (y := ga st 35 (bs + b8)) (by rw [eu16]; rfl) ?_
              refine x_topi (y := wRo st 35 bs b8) rfl ?_
              refine lv_bipush (v := nI 45) hx hb dX8_reckons_183 (by decide) ?_
              refine lv_icmp_ne (tgt := 192) hx hb dX8_reckons_185 (by decide) (fun q9 => absurd c162 q9) (fun _ => ?_)
              refine lv_iconst (v := (-1)) hx hb dX8_reckons_188 (by decide) ?_
              refine lv_goto (tgt := 193) hx hb dX8_reckons_189 (by decide) ?_
              refine lv_istore_n (lv' := [(3, .int (-1)), (4, .int (nI 1)), (5, .long w8), (0, .ref (ad 30)), (1, .int (nI b)), (2, .int (nI bs))]) hx hb dX8_reckons_193 rfl hl (by decide) rfl (fun ls hl => ?_)
              refine lv_aload_n hx hb dX8_reckons_194 rfl (lv_at hl 3 rfl) ?_
              refine lv_dup hx hb dX8_reckons_195 rfl ?_
              refine gf_X8_134 C h (hM 30 (by decide)) rfl dX8_reckons_196 ?_
              refine x_topi (y := nI b8) (by rw [eu16]; exact gi_ww9) ?_
              refine lv_iload hx hb dX8_reckons_199 (lv_at hl 1 rfl) ?_
              refine x_ifN_eq (tgt := 208) hx hb dX8_reckons_201 (by decide) (by decide) (fun z9 => absurd z9 (by decide)) (fun _ => ?_)
              refine lv_iconst (v := nI 1) hx hb dX8_reckons_204 (by decide) ?_
              refine lv_goto (tgt := 209) hx hb dX8_reckons_205 (by decide) ?_
              refine x_addN hx hb dX8_reckons_209 ?_
              refine pf_X8_134 C h (hM 30 (by decide)) rfl dX8_reckons_210 (fun H locs u19 eu19 h => ?_)
              rw [eu16, ww_9] at eu19
              refine lv_goto (tgt := 10) hx hb dX8_reckons_213 (by decide) ?_
              exact ih10 u19 (b8 + 1) (-1) (w9 + (s9.toInt64 * w8)) true (by omega) (fun _ => hR.elim (fun q9 => absurd c162 q9.2.1) (fun q9 => q9.elim (fun q9 => absurd (c162.symm.trans q9.1) (by decide)) (fun q9 => q9.2))) (fun q9 => by cases q9) eu19 (by omega) H locs ls h (lv_sub hl [3, 4, 5, 0, 1] rfl)
  exact L10 (162) u1 a0 (nI 1) 0 true (by omega) (fun _ => hK) (fun q9 => by cases q9) eu1 (by omega) H locs ls h (lv_sub hl [2, 3, 4, 1, 0] rfl)

set_option maxHeartbeats 4000000 in
set_option maxRecDepth 100000 in
theorem c_X8_holds (l : Launch) (D : va_G) (cy : Nat → ClassId) (ad : Nat → Nat) (Ls : List Nat) (st : XS) (hM : ∀ k, k ∈ LsM → k ∈ Ls) (b n : Nat) (hb30 : b < 30) (hn6 : n ≤ 6) (hmany : ga st 61 b = nI n) (o : Option Nat) (ho : ∀ j, o = some j → j < 6) (us : Nat → Option Nat) (hus : ∀ k, k < 6 → (∀ i, us k = some i → i < 60) ∧ ga st 67 (6 * b + k) = oI (us k)) (bs : Nat) (hbs : bs + 160 ≤ 960) (a0 : Nat) (ha0 : a0 ≤ 160) (A9 : Int32) (v0 : Int64) (lo wx fx : Int32) (c1 : Nat) (r1 : Int64) (hK1 : KS (wRo st 35 bs) (mnmS st b n us o) (fun x => o = none → nmL0.contains x = true) c1 r1 a0 (nI 1) 0) (hc1 : c1 < 160) (c2 : Nat) (r2 : Int64) (hK2 : KS (wRo st 35 bs) (mnmS st b n us o) (fun x => o = none → nmL0.contains x = true) c2 r2 (c1 + 1) (nI 1) 0) : xMi l yX8_holds cX8_holds 7 (some .boolean) 4 D cy ad Ls (wwS st (A9, v0, oI o, lo, wx, fx)) [.ref (ad 30), .int (nI b), .int (nI bs), .int (nI a0)] (fun r u => r = bi (cmpR (wRo st 35 bs c1) r1 r2) ∧ u = wwS st (nI c2, r2, oI o, lo, wx, fx)) := by
  intro sz
  refine x_of sz (by decide +kernel) (Nat.le_of_ble_eq_true rfl) ?_
  intro p e s m args below meth c ls hx hb hr hlocks C hsz h hl
  have hl : lv_has ls 7 [(0, .ref (ad 30)), (1, .int (nI b)), (2, .int (nI bs)), (3, .int (nI a0))] := hl
  obtain ⟨H, eH⟩ : ∃ z, z = s.heap := ⟨_, rfl⟩
  obtain ⟨locs, eL⟩ : ∃ z : List Loc, z = [] := ⟨_, rfl⟩
  rw [← eH, ← eL] at h
  rw [← eH, ← eL]
  clear eH eL
  obtain ⟨v, hv⟩ : ∃ v, v = wwS st (A9, v0, oI o, lo, wx, fx) := ⟨_, rfl⟩
  rw [← hv] at h
  refine lv_aload_n hx hb dX8_holds_0 rfl (lv_at hl 0 rfl) ?_
  refine lv_iload_n hx hb dX8_holds_1 rfl (lv_at hl 3 rfl) ?_
  refine pf_X8_134 C h (hM 30 (by decide)) rfl dX8_holds_2 (fun H locs u1 eu1 h => ?_)
  rw [hv, ww_9] at eu1
  refine lv_aload_n hx hb dX8_holds_5 rfl (lv_at hl 0 rfl) ?_
  refine lv_iload_n hx hb dX8_holds_6 rfl (lv_at hl 1 rfl) ?_
  refine lv_iload_n hx hb dX8_holds_7 rfl (lv_at hl 2 rfl) ?_
  rw [eu1] at h
  refine cl_X8_260 C h (hM 30 (by decide)) rfl (c_X8_reckons l D cy ad Ls st hM b n hb30 hn6 hmany o ho us hus bs hbs a0 (by omega) v0 lo wx fx c1 r1 hK1) (x_room (by omega)) ⟨Nat.zero_le _, Nat.zero_le _⟩ hl.1 (Nat.le_of_ble_eq_true rfl) dX8_holds_8 (fun u2 H locs hp h => ?_)
  have Eu2 := hp; clear hp
  refine lv_aload_n hx hb dX8_holds_11 rfl (lv_at hl 0 rfl) ?_
  refine gf_X8_249 C h (hM 30 (by decide)) rfl dX8_holds_12 ?_
  refine x_topl (y := r1) (by rw [Eu2]; exact gl_ww50) ?_
  refine lv_lstore (lv' := [(4, .long r1), (0, .ref (ad 30)), (1, .int (nI b)), (2, .int (nI bs)), (3, .int (nI a0))]) hx hb dX8_holds_15 hl (by decide) rfl (fun ls hl => ?_)
  refine lv_aload_n hx hb dX8_holds_17 rfl (lv_at hl 1 rfl) ?_
  refine gf_X8_16 C h (hM 30 (by decide)) rfl (k2 := 35) rfl dX8_holds_18 ?_
  refine lv_iload_n hx hb dX8_holds_21 rfl (lv_at hl 3 rfl) ?_
  refine lv_aload_n hx hb dX8_holds_22 rfl (lv_at hl 1 rfl) ?_
  refine gf_X8_134 C h (hM 30 (by decide)) rfl dX8_holds_23 ?_
  refine x_topi (y := nI c1) (by rw [Eu2]; exact gi_ww9) ?_
  refine x_addN hx hb dX8_holds_26 ?_
  refine x_ald C h (hM 35 (by decide)) (n := 960) rfl (bs + c1) (by omega) (by decide) rfl dX8_holds_27 ?_
  refine x_topi (y := ga st 35 (bs + c1)) (by rw [Eu2]; rfl) ?_
  refine x_topi (y := wRo st 35 bs c1) rfl ?_
  refine lv_istore (lv' := [(6, .int (wRo st 35 bs c1)), (4, .long r1), (0, .ref (ad 30)), (1, .int (nI b)), (2, .int (nI bs)), (3, .int (nI a0))]) hx hb dX8_holds_28 hl (by decide) rfl (fun ls hl => ?_)
  refine lv_aload_n hx hb dX8_holds_30 rfl (lv_at hl 2 rfl) ?_
  refine lv_dup hx hb dX8_holds_31 rfl ?_
  refine gf_X8_134 C h (hM 30 (by decide)) rfl dX8_holds_32 ?_
  refine x_topi (y := nI c1) (by rw [Eu2]; exact gi_ww9) ?_
  refine lv_iconst (v := nI 1) hx hb dX8_holds_35 (by decide) ?_
  refine x_addN hx hb dX8_holds_36 ?_
  refine pf_X8_134 C h (hM 30 (by decide)) rfl dX8_holds_37 (fun H locs u4 eu4 h => ?_)
  rw [Eu2, ww_9] at eu4
  refine lv_aload_n hx hb dX8_holds_40 rfl (lv_at hl 2 rfl) ?_
  refine lv_iload_n hx hb dX8_holds_41 rfl (lv_at hl 3 rfl) ?_
  refine lv_iload_n hx hb dX8_holds_42 rfl (lv_at hl 4 rfl) ?_
  rw [eu4] at h
  refine cl_X8_260 C h (hM 30 (by decide)) rfl (c_X8_reckons l D cy ad Ls st hM b n hb30 hn6 hmany o ho us hus bs hbs (c1 + 1) (by omega) r1 lo wx fx c2 r2 hK2) (x_room (by omega)) ⟨Nat.zero_le _, Nat.zero_le _⟩ hl.1 (Nat.le_of_ble_eq_true rfl) dX8_holds_43 (fun u5 H locs hp h => ?_)
  have Eu5 := hp; clear hp
  refine lv_iload hx hb dX8_holds_46 (lv_at hl 0 rfl) ?_
  refine lv_bipush (v := nI 60) hx hb dX8_holds_48 (by decide) ?_
  refine lv_icmp_ne (tgt := 71) hx hb dX8_holds_50 (by decide) (fun c50 => ?_) (fun c50 => ?_)
  · refine lv_iload hx hb dX8_holds_71 (lv_at hl 0 rfl) ?_
    refine lv_bipush (v := nI 62) hx hb dX8_holds_73 (by decide) ?_
    refine lv_icmp_ne (tgt := 96) hx hb dX8_holds_75 (by decide) (fun c75 => ?_) (fun c75 => ?_)
    · refine lv_lload hx hb dX8_holds_96 (lv_at hl 1 rfl) ?_
      refine lv_aload_n hx hb dX8_holds_98 rfl (lv_at hl 2 rfl) ?_
      refine gf_X8_249 C h (hM 30 (by decide)) rfl dX8_holds_99 ?_
      refine x_topl (y := r2) (by rw [Eu5]; exact gl_ww50) ?_
      refine x_lcmp hx hb dX8_holds_102 (fun r7 hr7 => ?_)
      refine lv_if_ne (tgt := 110) hx hb dX8_holds_103 (by decide) (fun c103 => ?_) (fun c103 => ?_)
      · refine lv_iconst (v := nI 0) hx hb dX8_holds_110 (by decide) ?_
        exact x_zret C hr hlocks (by first | rfl | exact bi_zn _ | decide) h ⟨by rw [cmpR, if_neg c50, if_neg c75]; rw [decide_eq_false (fun q => c103 (by rw [hr7]; exact lg_cmp_0.mpr q))]; rfl, Eu5⟩ dX8_holds_111
      · refine lv_iconst (v := nI 1) hx hb dX8_holds_106 (by decide) ?_
        refine lv_goto (tgt := 111) hx hb dX8_holds_107 (by decide) ?_
        exact x_zret C hr hlocks (by first | rfl | exact bi_zn _ | decide) h ⟨by rw [cmpR, if_neg c50, if_neg c75]; rw [decide_eq_true (lg_cmp_0.mp (by rw [← hr7]; exact c103))]; rfl, Eu5⟩ dX8_holds_111
    · refine lv_lload hx hb dX8_holds_78 (lv_at hl 1 rfl) ?_
      refine lv_aload_n hx hb dX8_holds_80 rfl (lv_at hl 2 rfl) ?_
      refine gf_X8_249 C h (hM 30 (by decide)) rfl dX8_holds_81 ?_
      refine x_topl (y := r2) (by rw [Eu5]; exact gl_ww50) ?_
      refine x_lcmp hx hb dX8_holds_84 (fun r8 hr8 => ?_)
      refine lv_if_le (tgt := 92) hx hb dX8_holds_85 (by decide) (fun c85 => ?_) (fun c85 => ?_)
      · refine lv_iconst (v := nI 0) hx hb dX8_holds_92 (by decide) ?_
        refine lv_goto (tgt := 111) hx hb dX8_holds_93 (by decide) ?_
        exact x_zret C hr hlocks (by first | rfl | exact bi_zn _ | decide) h ⟨by rw [cmpR, if_neg c50, if_pos c75]; rw [decide_eq_false (lg_gt.mp (by rw [← hr8]; exact c85))]; rfl, Eu5⟩ dX8_holds_111
      · refine lv_iconst (v := nI 1) hx hb dX8_holds_88 (by decide) ?_
        refine lv_goto (tgt := 111) hx hb dX8_holds_89 (by decide) ?_
        exact x_zret C hr hlocks (by first | rfl | exact bi_zn _ | decide) h ⟨by rw [cmpR, if_neg c50, if_pos c75]; rw [decide_eq_true (Decidable.not_not.mp (fun q => c85 (by rw [hr8]; exact lg_gt.mpr q)))]; rfl, Eu5⟩ dX8_holds_111
  · refine lv_lload hx hb dX8_holds_53 (lv_at hl 1 rfl) ?_
    refine lv_aload_n hx hb dX8_holds_55 rfl (lv_at hl 2 rfl) ?_
    refine gf_X8_249 C h (hM 30 (by decide)) rfl dX8_holds_56 ?_
    refine x_topl (y := r2) (by rw [Eu5]; exact gl_ww50) ?_
    refine x_lcmp hx hb dX8_holds_59 (fun r9 hr9 => ?_)
    refine lv_if_ge (tgt := 67) hx hb dX8_holds_60 (by decide) (fun c60 => ?_) (fun c60 => ?_)
    · refine lv_iconst (v := nI 0) hx hb dX8_holds_67 (by decide) ?_
      refine lv_goto (tgt := 111) hx hb dX8_holds_68 (by decide) ?_
      exact x_zret C hr hlocks (by first | rfl | exact bi_zn _ | decide) h ⟨by rw [cmpR, if_pos c50]; rw [decide_eq_false (lg_lt.mp (by rw [← hr9]; exact c60))]; rfl, Eu5⟩ dX8_holds_111
    · refine lv_iconst (v := nI 1) hx hb dX8_holds_63 (by decide) ?_
      refine lv_goto (tgt := 111) hx hb dX8_holds_64 (by decide) ?_
      exact x_zret C hr hlocks (by first | rfl | exact bi_zn _ | decide) h ⟨by rw [cmpR, if_pos c50]; rw [decide_eq_true (Decidable.not_not.mp (fun q => c60 (by rw [hr9]; exact lg_lt.mpr q)))]; rfl, Eu5⟩ dX8_holds_111
