/-! ===== template, make ===== -/
theorem xCl_up {st u : XS} {Ls : List Nat} (h : xCl st Ls) (hp : ∀ f k, gp u f k = gp st f k) (hb : ∀ k i, gb u k i = gb st k i ∨ ∃ j, j ∈ Ls ∧ gb u k i = some j) : xCl u Ls := by
  intro k hk
  obtain ⟨c1, c2⟩ := h k hk
  refine ⟨fun hkd f hf => ⟨(c1 hkd f hf).1, fun hcd j hj => (c1 hkd f hf).2 hcd j (by rw [← hp]; exact hj)⟩, fun hkd i j hj => ?_⟩
  rcases hb k i with e | ⟨j', hj', e⟩
  · exact c2 hkd i j (by rw [← e]; exact hj)
  · rw [e] at hj; cases hj; exact hj'
def kTmpl (nF : Nat) (t : Int32) : Nat := if t < 0 ∨ ¬ t ≤ nI nF then 1 else if t < nI 6 then 0 else 2
def kMake (b n : Nat) (c : Int32) : Nat := if bdI 10 c then 1 else if n = 0 then 2 else if b < 30 then 0 else 2
/-- what reading the page leaves -/
def rdR (st : XS) (g np n5 : Nat) : Bool × RS := rParts (ga st 11) np n5 false false (nI 0, nI 0, nI 0, ga st (300 + 4 * g + 1), ga st (300 + 4 * g + 2), ga st (300 + 4 * g + 3))
def rdU (st : XS) (g np n5 : Nat) : XS := si (rdS st g (rdR st g np n5).2) 1 2 (nI 0)
/-- a draft becomes an invoice -/
def mk1 (st : XS) (b : Nat) (c : Int32) : XS := si (si (si (si (si st 4 (100 + 6 * b) (nI b)) 5 (100 + 6 * b) c) 6 (100 + 6 * b) (gi st 4 0)) 7 (100 + 6 * b) (xget 10 (ga st 8) c)) 8 (100 + 6 * b) (xget 4 (ga st 7) (xget 10 (ga st 8) c))
def mk2 (st : XS) (nr b : Nat) (c : Int32) : XS := sa (mk1 st b c) (100 + 6 * b + 4) (fup (ga (mk1 st b c) (100 + 6 * b + 4)) (fun k => knS (mk1 st b c) nr (xget 10 (ga st 8) c) (nI k) (gi st 4 0)) 4)
def mk3 (st : XS) (nr b : Nat) (c : Int32) : XS := sa (mk2 st nr b c) (100 + 6 * b + 5) (fup (ga (mk2 st nr b c) (100 + 6 * b + 5)) (fun k => rtOf (ga (mk2 st nr b c) 15) (knS (mk2 st nr b c) nr (xget 10 (ga st 8) c) (nI k) (gi st 4 0))) 4)
def mk4 (st : XS) (nr b n : Nat) (c : Int32) : XS := si (mk3 st nr b c) 11 (100 + 6 * b) (txB (gi (mk3 st nr b c) 8 (100 + 6 * b)) (bK (mk3 st nr b c) b) (bQ (mk3 st nr b c) b) (bP (mk3 st nr b c) b) (ga (mk3 st nr b c) (100 + 6 * b + 5)) n)
def mk6 (st : XS) (nr b n : Nat) (c : Int32) : XS := si (sb (mk4 st nr b n c) 9 (fun z => if z = b then some (100 + 6 * b) else gb (mk4 st nr b n c) 9 z)) 10 0 (nI (b + 1))
def mk7 (st : XS) (nr b n : Nat) (c : Int32) : XS := sp (stB0 (mk6 st nr b n c) (b + 1)) 8 0 (some (100 + 6 * (b + 1)))

theorem mk6_gb (st : XS) (nr b n : Nat) (c : Int32) {Ls : List Nat} (h : 100 + 6 * b ∈ Ls) (k i : Nat) : gb (mk6 st nr b n c) k i = gb st k i ∨ ∃ j, j ∈ Ls ∧ gb (mk6 st nr b n c) k i = some j := by
  have e : gb (mk6 st nr b n c) k = if k = 9 then (fun z => if z = b then some (100 + 6 * b) else gb st 9 z) else gb st k := rfl
  rw [e]
  by_cases hk : k = 9
  · rw [if_pos hk, hk]
    by_cases hi : i = b
    · exact Or.inr ⟨_, h, if_pos hi⟩
    · exact Or.inl (if_neg hi)
  · rw [if_neg hk]; exact Or.inl rfl

set_option maxHeartbeats 4000000 in
set_option maxRecDepth 100000 in
theorem c_X7_make (l : Launch) (hl0 : l.stackTraces = false) (D : va_G) (cy : Nat → ClassId) (ad : Nat → Nat) (Ls : List Nat) (st : XS) (hL : ∀ k, xC k = true → k ∈ Ls) (nr : Nat) (hn60 : nr ≤ 60) (hcr : gi st 4 4 = nI nr) (b : Nat) (hb30 : b ≤ 30) (hB : ∀ j, j < 6 → 100 + 6 * b + j ∈ Ls) (n : Nat) (hn : n ≤ 6) (hc : gi st 3 (100 + 6 * b) = nI n) (hgp8 : gp st 8 0 = some (100 + 6 * b)) (hcnt : gi st 10 0 = nI b) (hcl : xCl st Ls) (hnew : ∀ k ∈ LsB (b + 1), k ∉ Ls) (c9 : Int32) : xXg l yX7_make cX7_make 4 8 10 80 D cy ad Ls st [.ref (ad 0), .int c9] (fun E => exK (kMake b n c9) [eIOB, eISE] E) (fun r u => kMake b n c9 = 0 ∧ r = nI b ∧ ∃ ad2 : Nat → Nat, (∀ k ∈ Ls, ad2 k = ad k) ∧ u = (mk7 st nr b n c9, ad2, Ls ++ LsB (b + 1))) := by
  intro sz
  refine x_ofX sz (by decide +kernel) (Nat.le_of_ble_eq_true rfl) ?_
  intro p e s m args below meth c ls hx hb hr hlocks hT0 C hsz h hl
  have hl : lv_has ls 4 [(0, .ref (ad 0)), (1, .int c9)] := hl
  have hb33 : b < 33 := by omega
  obtain ⟨td, htd⟩ : ∃ z, gi st 4 0 = z := ⟨_, rfl⟩
  obtain ⟨H, eH⟩ : ∃ z, z = s.heap := ⟨_, rfl⟩
  obtain ⟨locs, eL⟩ : ∃ z : List Loc, z = [] := ⟨_, rfl⟩
  rw [← eH, ← eL] at h
  rw [← eH, ← eL]
  clear eH eL
  refine lv_iload_n hx hb dX7_make_0 rfl (lv_at hl 1 rfl) ?_
  refine cx_X7_152 C h (c_X7_checkClient l hl0 D cy ad Ls st c9) (x_roomX (by omega)) ⟨Nat.le_of_ble_eq_true rfl, Nat.le_of_ble_eq_true rfl⟩ hl.1 (Nat.le_of_ble_eq_true rfl) dX7_make_1 (x_up C hT0 hlocks rfl (fun E z9 => exK_i 0 (by simp only [kMake, if_true, if_false, true_or, or_true, false_or, or_false, or_self, not_true_eq_false, not_false_eq_true, Bool.false_eq_true, eq_self, and_self, and_true, true_and, false_and, and_false, z9.2]) (by rw [z9.1]; rfl)) ⟨Nat.le_of_ble_eq_true rfl, Nat.le_of_ble_eq_true rfl⟩) (fun u1 H locs hp h => ?_)
  obtain ⟨eu1, g3⟩ := hp; rw [eu1] at h; clear eu1 u1
  refine lv_aload_n hx hb dX7_make_4 rfl (lv_at hl 0 rfl) ?_
  refine gf_X7_175 C h (hL 0 rfl) rfl dX7_make_5 ?_
  refine x_topi hcnt ?_
  refine lv_istore_n (lv' := [(2, .int (nI b)), (0, .ref (ad 0)), (1, .int c9)]) hx hb dX7_make_8 rfl hl (by decide) rfl (fun ls hl => ?_)
  refine lv_aload_n hx hb dX7_make_9 rfl (lv_at hl 1 rfl) ?_
  refine gf_X7_46 C h (hL 0 rfl) rfl dX7_make_10 ?_
  refine x_topref (by rw [hgp8]; rfl) ?_
  refine gf_X7_157 C h (show 100 + 6 * b ∈ Ls from hB 0 (by decide)) (kd_b0 hb33) dX7_make_13 ?_
  refine x_topi hc ?_
  refine x_ifN_eq (tgt := 32) hx hb dX7_make_16 (by decide) (by omega) (fun c16 => ?_) (fun c16 => ?_)
  · exact x_thr C h hl0 hT0 hlocks th_ISE (List.mem_of_getElem? (i := 15) rfl) hl.1 ⟨Nat.le_of_ble_eq_true rfl, Nat.le_of_ble_eq_true rfl⟩ ⟨Nat.le_of_ble_eq_true rfl, Nat.le_of_ble_eq_true rfl⟩ ⟨Nat.le_of_ble_eq_true rfl, Nat.le_of_ble_eq_true rfl⟩ rfl (exK_i 1 (by simp only [kMake, if_true, if_false, true_or, or_true, false_or, or_false, or_self, not_true_eq_false, not_false_eq_true, Bool.false_eq_true, eq_self, and_self, and_true, true_and, false_and, and_false, g3, c16]) rfl) dX7_make_32 dX7_make_35 dX7_make_36 dX7_make_38 dX7_make_41
  · refine lv_iload_n hx hb dX7_make_19 rfl (lv_at hl 0 rfl) ?_
    refine x_if_lt_f hx hb dX7_make_20 (nI_pos (by omega)) ?_
    refine lv_iload_n hx hb dX7_make_23 rfl (lv_at hl 0 rfl) ?_
    refine lv_aload_n hx hb dX7_make_24 rfl (lv_at hl 1 rfl) ?_
    refine gf_X7_50 C h (hL 0 rfl) rfl (k2 := 9) rfl dX7_make_25 ?_
    refine x_alenq C h (hL 9 rfl) (Or.inl ⟨rfl, rfl⟩) dX7_make_28 ?_
    refine x_icmpN_lt (tgt := 42) hx hb dX7_make_29 (by decide) (by omega) (by omega) (fun c29 => ?_) (fun c29 => ?_)
    · refine lv_aload_n hx hb dX7_make_42 rfl (lv_at hl 1 rfl) ?_
      refine gf_X7_40 C h (hL 0 rfl) rfl (k2 := 8) rfl dX7_make_43 ?_
      refine lv_iload_n hx hb dX7_make_46 rfl (lv_at hl 2 rfl) ?_
      refine cl_X7_144 C h (c_X7_get l D cy ad Ls st (hL 8 rfl) (n := 10) rfl (by decide) c9) (x_roomX (by omega)) ⟨Nat.le_of_ble_eq_true rfl, Nat.le_of_ble_eq_true rfl⟩ hl.1 (Nat.le_of_ble_eq_true rfl) dX7_make_47 (fun r5 u4 H locs hp h => ?_)
      obtain ⟨er5, eu4⟩ := hp; rw [eu4] at h; clear eu4 u4; refine x_topi er5 ?_; clear er5 r5
      refine lv_istore_n (lv' := [(3, .int (xget 10 (ga st 8) c9)), (2, .int (nI b)), (0, .ref (ad 0)), (1, .int c9)]) hx hb dX7_make_50 rfl hl (by decide) rfl (fun ls hl => ?_)
      refine lv_aload_n hx hb dX7_make_51 rfl (lv_at hl 2 rfl) ?_
      refine gf_X7_46 C h (hL 0 rfl) rfl dX7_make_52 ?_
      refine x_topref (by rw [hgp8]; rfl) ?_
      refine lv_iload_n hx hb dX7_make_55 rfl (lv_at hl 1 rfl) ?_
      refine pf_X7_180 C h (show 100 + 6 * b ∈ Ls from hB 0 (by decide)) (kd_b0 hb33) dX7_make_56 (fun H locs u6 eu6 h => ?_)
      have e7 : gi u6 4 4 = nI nr := by rw [eu6, gi_si, if_neg (by omega)]; exact hcr
      have e8 : gi u6 3 (100 + 6 * b) = nI n := by rw [eu6, gi_si, if_neg (by omega)]; exact hc
      have e9 : gp u6 8 0 = some (100 + 6 * b) := by rw [eu6]; exact hgp8
      have e10 : gi u6 10 0 = nI b := by rw [eu6, gi_si, if_neg (by omega)]; exact hcnt
      have e11 : gi u6 4 0 = td := by rw [eu6, gi_si, if_neg (by omega)]; exact htd
      have e12 : gi u6 4 (100 + 6 * b) = nI b := by rw [eu6, gi_si, if_pos ⟨rfl, rfl⟩]
      refine lv_aload_n hx hb dX7_make_59 rfl (lv_at hl 2 rfl) ?_
      refine gf_X7_46 C h (hL 0 rfl) rfl dX7_make_60 ?_
      refine x_topref (by rw [e9]; rfl) ?_
      refine lv_iload_n hx hb dX7_make_63 rfl (lv_at hl 3 rfl) ?_
      refine pf_X7_183 C h (show 100 + 6 * b ∈ Ls from hB 0 (by decide)) (kd_b0 hb33) dX7_make_64 (fun H locs u13 eu13 h => ?_)
      have e14 : gi u13 4 4 = nI nr := by rw [eu13, gi_si, if_neg (by omega)]; exact e7
      have e15 : gi u13 3 (100 + 6 * b) = nI n := by rw [eu13, gi_si, if_neg (by omega)]; exact e8
      have e16 : gp u13 8 0 = some (100 + 6 * b) := by rw [eu13]; exact e9
      have e17 : gi u13 10 0 = nI b := by rw [eu13, gi_si, if_neg (by omega)]; exact e10
      have e18 : gi u13 4 0 = td := by rw [eu13, gi_si, if_neg (by omega)]; exact e11
      have e19 : gi u13 4 (100 + 6 * b) = nI b := by rw [eu13, gi_si, if_neg (by omega)]; exact e12
      have e20 : gi u13 5 (100 + 6 * b) = c9 := by rw [eu13, gi_si, if_pos ⟨rfl, rfl⟩]
      refine lv_aload_n hx hb dX7_make_67 rfl (lv_at hl 2 rfl) ?_
      refine gf_X7_46 C h (hL 0 rfl) rfl dX7_make_68 ?_
      refine x_topref (by rw [e16]; rfl) ?_
      refine lv_aload_n hx hb dX7_make_71 rfl (lv_at hl 2 rfl) ?_
      refine gf_X7_115 C h (hL 0 rfl) rfl dX7_make_72 ?_
      refine x_topi e18 ?_
      refine pf_X7_186 C h (show 100 + 6 * b ∈ Ls from hB 0 (by decide)) (kd_b0 hb33) dX7_make_75 (fun H locs u21 eu21 h => ?_)
      have e22 : gi u21 4 4 = nI nr := by rw [eu21, gi_si, if_neg (by omega)]; exact e14
      have e23 : gi u21 3 (100 + 6 * b) = nI n := by rw [eu21, gi_si, if_neg (by omega)]; exact e15
      have e24 : gp u21 8 0 = some (100 + 6 * b) := by rw [eu21]; exact e16
      have e25 : gi u21 10 0 = nI b := by rw [eu21, gi_si, if_neg (by omega)]; exact e17
      have e26 : gi u21 4 0 = td := by rw [eu21, gi_si, if_neg (by omega)]; exact e18
      have e27 : gi u21 4 (100 + 6 * b) = nI b := by rw [eu21, gi_si, if_neg (by omega)]; exact e19
      have e28 : gi u21 5 (100 + 6 * b) = c9 := by rw [eu21, gi_si, if_neg (by omega)]; exact e20
      have e29 : gi u21 6 (100 + 6 * b) = td := by rw [eu21, gi_si, if_pos ⟨rfl, rfl⟩]
      refine lv_aload_n hx hb dX7_make_78 rfl (lv_at hl 2 rfl) ?_
      refine gf_X7_46 C h (hL 0 rfl) rfl dX7_make_79 ?_
      refine x_topref (by rw [e24]; rfl) ?_
      refine lv_iload_n hx hb dX7_make_82 rfl (lv_at hl 0 rfl) ?_
      refine pf_X7_189 C h (show 100 + 6 * b ∈ Ls from hB 0 (by decide)) (kd_b0 hb33) dX7_make_83 (fun H locs u30 eu30 h => ?_)
      have e31 : gi u30 4 4 = nI nr := by rw [eu30, gi_si, if_neg (by omega)]; exact e22
      have e32 : gi u30 3 (100 + 6 * b) = nI n := by rw [eu30, gi_si, if_neg (by omega)]; exact e23
      have e33 : gp u30 8 0 = some (100 + 6 * b) := by rw [eu30]; exact e24
      have e34 : gi u30 10 0 = nI b := by rw [eu30, gi_si, if_neg (by omega)]; exact e25
      have e35 : gi u30 4 0 = td := by rw [eu30, gi_si, if_neg (by omega)]; exact e26
      have e36 : gi u30 4 (100 + 6 * b) = nI b := by rw [eu30, gi_si, if_neg (by omega)]; exact e27
      have e37 : gi u30 5 (100 + 6 * b) = c9 := by rw [eu30, gi_si, if_neg (by omega)]; exact e28
      have e38 : gi u30 6 (100 + 6 * b) = td := by rw [eu30, gi_si, if_neg (by omega)]; exact e29
      have e39 : gi u30 7 (100 + 6 * b) = xget 10 (ga st 8) c9 := by rw [eu30, gi_si, if_pos ⟨rfl, rfl⟩]
      refine lv_aload_n hx hb dX7_make_86 rfl (lv_at hl 2 rfl) ?_
      refine gf_X7_46 C h (hL 0 rfl) rfl dX7_make_87 ?_
      refine x_topref (by rw [e33]; rfl) ?_
      refine lv_aload_n hx hb dX7_make_90 rfl (lv_at hl 2 rfl) ?_
      refine gf_X7_36 C h (hL 0 rfl) rfl (k2 := 7) rfl dX7_make_91 ?_
      refine lv_iload_n hx hb dX7_make_94 rfl (lv_at hl 0 rfl) ?_
      refine cl_X7_144 C h (c_X7_get l D cy ad Ls u30 (hL 7 rfl) (n := 4) rfl (by decide) (xget 10 (ga st 8) c9)) (x_roomX (by omega)) ⟨Nat.le_of_ble_eq_true rfl, Nat.le_of_ble_eq_true rfl⟩ hl.1 (Nat.le_of_ble_eq_true rfl) dX7_make_95 (fun r41 u40 H locs hp h => ?_)
      obtain ⟨er41, eu40⟩ := hp; rw [eu40] at h; clear eu40 u40; refine x_topi er41 ?_; clear er41 r41
      refine pf_X7_192 C h (show 100 + 6 * b ∈ Ls from hB 0 (by decide)) (kd_b0 hb33) dX7_make_98 (fun H locs u42 eu42 h => ?_)
      have e43 : gi u42 4 4 = nI nr := by rw [eu42, gi_si, if_neg (by omega)]; exact e31
      have e44 : gi u42 3 (100 + 6 * b) = nI n := by rw [eu42, gi_si, if_neg (by omega)]; exact e32
      have e45 : gp u42 8 0 = some (100 + 6 * b) := by rw [eu42]; exact e33
      have e46 : gi u42 10 0 = nI b := by rw [eu42, gi_si, if_neg (by omega)]; exact e34
      have e47 : gi u42 4 0 = td := by rw [eu42, gi_si, if_neg (by omega)]; exact e35
      have e48 : gi u42 4 (100 + 6 * b) = nI b := by rw [eu42, gi_si, if_neg (by omega)]; exact e36
      have e49 : gi u42 5 (100 + 6 * b) = c9 := by rw [eu42, gi_si, if_neg (by omega)]; exact e37
      have e50 : gi u42 6 (100 + 6 * b) = td := by rw [eu42, gi_si, if_neg (by omega)]; exact e38
      have e51 : gi u42 7 (100 + 6 * b) = xget 10 (ga st 8) c9 := by rw [eu42, gi_si, if_neg (by omega)]; exact e39
      have e52 : gi u42 8 (100 + 6 * b) = xget 4 (ga u30 7) (xget 10 (ga st 8) c9) := by rw [eu42, gi_si, if_pos ⟨rfl, rfl⟩]
      refine lv_aload_n hx hb dX7_make_101 rfl (lv_at hl 2 rfl) ?_
      refine gf_X7_32 C h (hL 0 rfl) rfl (k2 := 4) rfl dX7_make_102 ?_
      refine lv_iload_n hx hb dX7_make_105 rfl (lv_at hl 0 rfl) ?_
      refine lv_aload_n hx hb dX7_make_106 rfl (lv_at hl 2 rfl) ?_
      refine gf_X7_115 C h (hL 0 rfl) rfl dX7_make_107 ?_
      refine x_topi e47 ?_
      refine lv_aload_n hx hb dX7_make_110 rfl (lv_at hl 2 rfl) ?_
      refine gf_X7_46 C h (hL 0 rfl) rfl dX7_make_111 ?_
      refine x_topref (by rw [e45]; rfl) ?_
      refine gf_X7_195 C h (show 100 + 6 * b ∈ Ls from hB 0 (by decide)) (kd_b0 hb33) (k2 := (100 + 6 * b + 4)) rfl dX7_make_114 ?_
      refine cl_X7_198 C h (hL 4 rfl) rfl (c_X4_fillTellings l D cy ad Ls u42 hL (hB 4 (by decide)) (kd_b4 hb33) nr hn60 e43 (xget 10 (ga st 8) c9) td) (x_roomX (by omega)) ⟨Nat.le_of_ble_eq_true rfl, Nat.le_of_ble_eq_true rfl⟩ hl.1 (Nat.le_of_ble_eq_true rfl) dX7_make_117 (fun u53 H locs hp h => ?_)
      have eu53 := hp; clear hp
      have e55 : gi u53 4 4 = nI nr := by rw [eu53]; exact e43
      have e56 : gi u53 3 (100 + 6 * b) = nI n := by rw [eu53]; exact e44
      have e57 : gp u53 8 0 = some (100 + 6 * b) := by rw [eu53]; exact e45
      have e58 : gi u53 10 0 = nI b := by rw [eu53]; exact e46
      have e59 : gi u53 4 0 = td := by rw [eu53]; exact e47
      have e60 : gi u53 4 (100 + 6 * b) = nI b := by rw [eu53]; exact e48
      have e61 : gi u53 5 (100 + 6 * b) = c9 := by rw [eu53]; exact e49
      have e62 : gi u53 6 (100 + 6 * b) = td := by rw [eu53]; exact e50
      have e63 : gi u53 7 (100 + 6 * b) = xget 10 (ga st 8) c9 := by rw [eu53]; exact e51
      have e64 : gi u53 8 (100 + 6 * b) = xget 4 (ga u30 7) (xget 10 (ga st 8) c9) := by rw [eu53]; exact e52
      refine lv_aload_n hx hb dX7_make_120 rfl (lv_at hl 2 rfl) ?_
      refine gf_X7_32 C h (hL 0 rfl) rfl (k2 := 4) rfl dX7_make_121 ?_
      refine lv_iload_n hx hb dX7_make_124 rfl (lv_at hl 0 rfl) ?_
      refine lv_aload_n hx hb dX7_make_125 rfl (lv_at hl 2 rfl) ?_
      refine gf_X7_115 C h (hL 0 rfl) rfl dX7_make_126 ?_
      refine x_topi e59 ?_
      refine lv_aload_n hx hb dX7_make_129 rfl (lv_at hl 2 rfl) ?_
      refine gf_X7_46 C h (hL 0 rfl) rfl dX7_make_130 ?_
      refine x_topref (by rw [e57]; rfl) ?_
      refine gf_X7_202 C h (show 100 + 6 * b ∈ Ls from hB 0 (by decide)) (kd_b0 hb33) (k2 := (100 + 6 * b + 5)) rfl dX7_make_133 ?_
      refine cl_X7_205 C h (hL 4 rfl) rfl (c_X4_fillHundredths l D cy ad Ls u53 hL (hB 5 (by decide)) (kd_b5 hb33) nr hn60 e55 (xget 10 (ga st 8) c9) td) (x_roomX (by omega)) ⟨Nat.le_of_ble_eq_true rfl, Nat.le_of_ble_eq_true rfl⟩ hl.1 (Nat.le_of_ble_eq_true rfl) dX7_make_136 (fun u65 H locs hp h => ?_)
      have eu65 := hp; clear hp
      have e67 : gi u65 4 4 = nI nr := by rw [eu65]; exact e55
      have e68 : gi u65 3 (100 + 6 * b) = nI n := by rw [eu65]; exact e56
      have e69 : gp u65 8 0 = some (100 + 6 * b) := by rw [eu65]; exact e57
      have e70 : gi u65 10 0 = nI b := by rw [eu65]; exact e58
      have e71 : gi u65 4 0 = td := by rw [eu65]; exact e59
      have e72 : gi u65 4 (100 + 6 * b) = nI b := by rw [eu65]; exact e60
      have e73 : gi u65 5 (100 + 6 * b) = c9 := by rw [eu65]; exact e61
      have e74 : gi u65 6 (100 + 6 * b) = td := by rw [eu65]; exact e62
      have e75 : gi u65 7 (100 + 6 * b) = xget 10 (ga st 8) c9 := by rw [eu65]; exact e63
      have e76 : gi u65 8 (100 + 6 * b) = xget 4 (ga u30 7) (xget 10 (ga st 8) c9) := by rw [eu65]; exact e64
      refine lv_aload_n hx hb dX7_make_139 rfl (lv_at hl 2 rfl) ?_
      refine gf_X7_46 C h (hL 0 rfl) rfl dX7_make_140 ?_
      refine x_topref (by rw [e69]; rfl) ?_
      refine lv_aload_n hx hb dX7_make_143 rfl (lv_at hl 2 rfl) ?_
      refine gf_X7_46 C h (hL 0 rfl) rfl dX7_make_144 ?_
      refine x_topref (by rw [e69]; rfl) ?_
      refine lv_aload_n hx hb dX7_make_147 rfl (lv_at hl 2 rfl) ?_
      refine gf_X7_46 C h (hL 0 rfl) rfl dX7_make_148 ?_
      refine x_topref (by rw [e69]; rfl) ?_
      refine gf_X7_202 C h (show 100 + 6 * b ∈ Ls from hB 0 (by decide)) (kd_b0 hb33) (k2 := (100 + 6 * b + 5)) rfl dX7_make_151 ?_
      refine cl_X7_208 C h (show 100 + 6 * b ∈ Ls from hB 0 (by decide)) (kd_b0 hb33) (c_X0_taxBy l D cy ad Ls u65 hb33 hB (hB 5 (by decide)) (kd_b5 hb33) n hn e68) (x_roomX (by omega)) ⟨Nat.le_of_ble_eq_true rfl, Nat.le_of_ble_eq_true rfl⟩ hl.1 (Nat.le_of_ble_eq_true rfl) dX7_make_154 (fun r78 u77 H locs hp h => ?_)
      obtain ⟨er78, eu77⟩ := hp; rw [eu77] at h; clear eu77 u77; refine x_topi er78 ?_; clear er78 r78
      refine pf_X7_212 C h (show 100 + 6 * b ∈ Ls from hB 0 (by decide)) (kd_b0 hb33) dX7_make_157 (fun H locs u79 eu79 h => ?_)
      have e80 : gi u79 4 4 = nI nr := by rw [eu79, gi_si, if_neg (by omega)]; exact e67
      have e81 : gi u79 3 (100 + 6 * b) = nI n := by rw [eu79, gi_si, if_neg (by omega)]; exact e68
      have e82 : gp u79 8 0 = some (100 + 6 * b) := by rw [eu79]; exact e69
      have e83 : gi u79 10 0 = nI b := by rw [eu79, gi_si, if_neg (by omega)]; exact e70
      have e84 : gi u79 4 0 = td := by rw [eu79, gi_si, if_neg (by omega)]; exact e71
      have e85 : gi u79 4 (100 + 6 * b) = nI b := by rw [eu79, gi_si, if_neg (by omega)]; exact e72
      have e86 : gi u79 5 (100 + 6 * b) = c9 := by rw [eu79, gi_si, if_neg (by omega)]; exact e73
      have e87 : gi u79 6 (100 + 6 * b) = td := by rw [eu79, gi_si, if_neg (by omega)]; exact e74
      have e88 : gi u79 7 (100 + 6 * b) = xget 10 (ga st 8) c9 := by rw [eu79, gi_si, if_neg (by omega)]; exact e75
      have e89 : gi u79 8 (100 + 6 * b) = xget 4 (ga u30 7) (xget 10 (ga st 8) c9) := by rw [eu79, gi_si, if_neg (by omega)]; exact e76
      have e90 : gi u79 11 (100 + 6 * b) = txB (gi u65 8 (100 + 6 * b)) (bK u65 b) (bQ u65 b) (bP u65 b) (ga u65 (100 + 6 * b + 5)) n := by rw [eu79, gi_si, if_pos ⟨rfl, rfl⟩]
      refine lv_aload_n hx hb dX7_make_160 rfl (lv_at hl 2 rfl) ?_
      refine gf_X7_50 C h (hL 0 rfl) rfl (k2 := 9) rfl dX7_make_161 ?_
      refine lv_iload_n hx hb dX7_make_164 rfl (lv_at hl 1 rfl) ?_
      refine lv_aload_n hx hb dX7_make_165 rfl (lv_at hl 2 rfl) ?_
      refine gf_X7_46 C h (hL 0 rfl) rfl dX7_make_166 ?_
      refine x_topref (by rw [e82]; rfl) ?_
      refine x_astq C h (k := 9) (kv := 100 + 6 * b) (n := 30) (ci := 0) (hL 9 rfl) (show 100 + 6 * b ∈ Ls from hB 0 (by decide)) (Or.inl ⟨rfl, rfl, kd_b0 hb33⟩) b (by omega) rfl dX7_make_169 (fun H locs u91 eu91 h => ?_)
      have e92 : gi u91 4 4 = nI nr := by rw [eu91]; exact e80
      have e93 : gi u91 3 (100 + 6 * b) = nI n := by rw [eu91]; exact e81
      have e94 : gp u91 8 0 = some (100 + 6 * b) := by rw [eu91]; exact e82
      have e95 : gi u91 10 0 = nI b := by rw [eu91]; exact e83
      have e96 : gi u91 4 0 = td := by rw [eu91]; exact e84
      have e97 : gi u91 4 (100 + 6 * b) = nI b := by rw [eu91]; exact e85
      have e98 : gi u91 5 (100 + 6 * b) = c9 := by rw [eu91]; exact e86
      have e99 : gi u91 6 (100 + 6 * b) = td := by rw [eu91]; exact e87
      have e100 : gi u91 7 (100 + 6 * b) = xget 10 (ga st 8) c9 := by rw [eu91]; exact e88
      have e101 : gi u91 8 (100 + 6 * b) = xget 4 (ga u30 7) (xget 10 (ga st 8) c9) := by rw [eu91]; exact e89
      have e102 : gi u91 11 (100 + 6 * b) = txB (gi u65 8 (100 + 6 * b)) (bK u65 b) (bQ u65 b) (bP u65 b) (ga u65 (100 + 6 * b + 5)) n := by rw [eu91]; exact e90
      refine lv_aload_n hx hb dX7_make_170 rfl (lv_at hl 2 rfl) ?_
      refine lv_iload_n hx hb dX7_make_171 rfl (lv_at hl 1 rfl) ?_
      refine lv_iconst (v := nI 1) hx hb dX7_make_172 (by decide) ?_
      refine x_addN hx hb dX7_make_173 ?_
      refine pf_X7_175 C h (hL 0 rfl) rfl dX7_make_174 (fun H locs u103 eu103 h => ?_)
      have e104 : gi u103 4 4 = nI nr := by rw [eu103, gi_si, if_neg (by omega)]; exact e92
      have e105 : gi u103 3 (100 + 6 * b) = nI n := by rw [eu103, gi_si, if_neg (by omega)]; exact e93
      have e106 : gp u103 8 0 = some (100 + 6 * b) := by rw [eu103]; exact e94
      have e108 : gi u103 4 0 = td := by rw [eu103, gi_si, if_neg (by omega)]; exact e96
      have e109 : gi u103 4 (100 + 6 * b) = nI b := by rw [eu103, gi_si, if_neg (by omega)]; exact e97
      have e110 : gi u103 5 (100 + 6 * b) = c9 := by rw [eu103, gi_si, if_neg (by omega)]; exact e98
      have e111 : gi u103 6 (100 + 6 * b) = td := by rw [eu103, gi_si, if_neg (by omega)]; exact e99
      have e112 : gi u103 7 (100 + 6 * b) = xget 10 (ga st 8) c9 := by rw [eu103, gi_si, if_neg (by omega)]; exact e100
      have e113 : gi u103 8 (100 + 6 * b) = xget 4 (ga u30 7) (xget 10 (ga st 8) c9) := by rw [eu103, gi_si, if_neg (by omega)]; exact e101
      have e114 : gi u103 11 (100 + 6 * b) = txB (gi u65 8 (100 + 6 * b)) (bK u65 b) (bQ u65 b) (bP u65 b) (ga u65 (100 + 6 * b + 5)) n := by rw [eu103, gi_si, if_neg (by omega)]; exact e102
      have e115 : gi u103 10 0 = nI (b + 1) := by rw [eu103, gi_si, if_pos ⟨rfl, rfl⟩]
      refine lv_aload_n hx hb dX7_make_177 rfl (lv_at hl 2 rfl) ?_
      have e6 : u103 = mk6 st nr b n c9 := by rw [eu103, eu91, eu79, eu65, eu53, eu42, eu30, eu21, eu13, eu6, ← htd]; rfl
      rw [e6] at h
      have hcl9 : xCl (mk6 st nr b n c9) Ls := xCl_up hcl (fun f k => rfl) (fun k i => mk6_gb st nr b n c9 (show 100 + 6 * b ∈ Ls from hB 0 (by decide)) k i)
      refine x_newB C h (b := b + 1) (by omega) hcl9 hnew ⟨Nat.le_of_ble_eq_true rfl, Nat.le_of_ble_eq_true rfl⟩ ⟨Nat.le_of_ble_eq_true rfl, Nat.le_of_ble_eq_true rfl⟩ hl.1 (Nat.le_of_ble_eq_true rfl) dX7_make_178 dX7_make_181 dX7_make_182 (fun q q1 q2 q3 q4 q5 H locs h => ?_)
      have ea : ∀ k ∈ Ls, adB ad (b + 1) q q1 q2 q3 q4 q5 k = ad k := adB_ag hnew
      have eq9 : adB ad (b + 1) q q1 q2 q3 q4 q5 (100 + 6 * (b + 1)) = q := if_pos rfl
      generalize hgA : adB ad (b + 1) q q1 q2 q3 q4 q5 = ad2 at h ea eq9
      rw [← ea 0 (hL 0 rfl)]
      refine x_topref (q := ad2 (100 + 6 * (b + 1))) (by rw [eq9]) ?_
      refine pf_X7_46 C h (List.mem_append_left _ (hL 0 rfl)) rfl dX7_make_185 (fun H locs u9 eu9 h => ?_)
      refine lv_iload_n hx hb dX7_make_188 rfl (lv_at hl 1 rfl) ?_
      exact x_iretG C hr hlocks h (Nat.le_of_ble_eq_true rfl) (Nat.le_of_ble_eq_true rfl) ⟨by simp only [kMake, if_true, if_false, true_or, or_true, false_or, or_false, or_self, not_true_eq_false, not_false_eq_true, Bool.false_eq_true, eq_self, and_self, and_true, true_and, false_and, and_false, g3, c16, c29, Nat.not_le.mpr c29], rfl, ad2, ea, by rw [eu9]; rfl⟩ dX7_make_189
    · exact x_thr C h hl0 hT0 hlocks th_ISE (List.mem_of_getElem? (i := 15) rfl) hl.1 ⟨Nat.le_of_ble_eq_true rfl, Nat.le_of_ble_eq_true rfl⟩ ⟨Nat.le_of_ble_eq_true rfl, Nat.le_of_ble_eq_true rfl⟩ ⟨Nat.le_of_ble_eq_true rfl, Nat.le_of_ble_eq_true rfl⟩ rfl (exK_i 1 (by simp only [kMake, if_true, if_false, true_or, or_true, false_or, or_false, or_self, not_true_eq_false, not_false_eq_true, Bool.false_eq_true, eq_self, and_self, and_true, true_and, false_and, and_false, g3, c16, c29, Nat.not_lt.mpr c29]) rfl) dX7_make_32 dX7_make_35 dX7_make_36 dX7_make_38 dX7_make_41

theorem rdU_3 (st : XS) (g np n5 : Nat) : gi (rdU st g np n5) 3 0 = gi st 3 0 := by
  unfold rdU
  obtain ⟨x, hx⟩ : ∃ x, x = (rdR st g np n5).2 := ⟨_, rfl⟩
  rw [← hx, gi_si, if_neg (by decide)]
  obtain ⟨a, p, z, d, f, w⟩ := x
  exact gi_rd_o (by decide) (by decide) (by omega)

set_option maxHeartbeats 4000000 in
set_option maxRecDepth 100000 in
theorem c_X7_template (l : Launch) (hl0 : l.stackTraces = false) (D : va_G) (cy : Nat → ClassId) (ad : Nat → Nat) (Ls : List Nat) (st : XS) (hL : ∀ k, xC k = true → k ∈ Ls) {g : Nat} (hg40 : g < 40) (hG : ∀ j, j < 4 → 300 + 4 * g + j ∈ Ls) (hgp : gp st 1 1 = some (300 + 4 * g)) (np : Nat) (hnp : gi st 1 2 = nI np) (n5 : Nat) (h5 : n5 = 5) (nF : Nat) (hnF : nF ≤ 6) (fm : Nat → Nat) (hrowF : ∀ i, i < 6 → gb st 6 i = if i < nF then some (300 + 4 * fm i) else none) (hcnt : gi st 3 0 = nI nF) (gN : Nat) (hgN : gN < 40) (hcl : xCl st Ls) (hnew : ∀ k ∈ LsF gN, k ∉ Ls) (x : Int32) : xXg l yX7_template cX7_template 4 30 10 600 D cy ad Ls st [.ref (ad 0), .int x] (fun E => exK (kTmpl nF x) [eIOB, eISE] E) (fun r u => kTmpl nF x = 0 ∧ r = rpA np (rdR st g np n5) ∧ ((r < 0 ∧ u = (rdU st g np n5, ad, Ls)) ∨ (¬ r < 0 ∧ ∃ j : Nat, x = nI j ∧ ((j < nF ∧ u = (sb (sp (rdU st g np n5) 1 1 (some (300 + 4 * fm j))) 6 (fun z => if z = j then some (300 + 4 * g) else gb (sp (rdU st g np n5) 1 1 (some (300 + 4 * fm j))) 6 z), ad, Ls)) ∨ (j = nF ∧ ∃ ad2 : Nat → Nat, (∀ k ∈ Ls, ad2 k = ad k) ∧ u = (si (sb (sp (stF0 (rdU st g np n5) gN) 1 1 (some (300 + 4 * gN))) 6 (fun z => if z = j then some (300 + 4 * g) else gb (sp (stF0 (rdU st g np n5) gN) 1 1 (some (300 + 4 * gN))) 6 z)) 3 0 (nI (nF + 1)), ad2, Ls ++ LsF gN)))))) := by
  intro sz
  refine x_ofX sz (by decide +kernel) (Nat.le_of_ble_eq_true rfl) ?_
  intro p e s m args below meth c ls hx hb hr hlocks hT0 C hsz h hl
  have hl : lv_has ls 4 [(0, .ref (ad 0)), (1, .int x)] := hl
  obtain ⟨H, eH⟩ : ∃ z, z = s.heap := ⟨_, rfl⟩
  obtain ⟨locs, eL⟩ : ∃ z : List Loc, z = [] := ⟨_, rfl⟩
  rw [← eH, ← eL] at h
  rw [← eH, ← eL]
  clear eH eL
  refine lv_iload_n hx hb dX7_template_0 rfl (lv_at hl 1 rfl) ?_
  refine lv_if_lt (tgt := 12) hx hb dX7_template_1 (by decide) (fun c1 => ?_) (fun c1 => ?_)
  · exact x_thr C h hl0 hT0 hlocks th_IOB (List.mem_of_getElem? (i := 2) rfl) hl.1 ⟨Nat.le_of_ble_eq_true rfl, Nat.le_of_ble_eq_true rfl⟩ ⟨Nat.le_of_ble_eq_true rfl, Nat.le_of_ble_eq_true rfl⟩ ⟨Nat.le_of_ble_eq_true rfl, Nat.le_of_ble_eq_true rfl⟩ rfl (exK_i 0 (by rw [kTmpl, if_pos (Or.inl c1)]) rfl) dX7_template_12 dX7_template_15 dX7_template_16 dX7_template_18 dX7_template_21
  · refine lv_iload_n hx hb dX7_template_4 rfl (lv_at hl 1 rfl) ?_
    refine lv_aload_n hx hb dX7_template_5 rfl (lv_at hl 0 rfl) ?_
    refine gf_X7_94 C h (hL 0 rfl) rfl dX7_template_6 ?_
    refine x_topi hcnt ?_
    refine lv_icmp_le (tgt := 22) hx hb dX7_template_9 (by decide) (fun c9 => ?_) (fun c9 => ?_)
    · refine lv_iload_n hx hb dX7_template_22 rfl (lv_at hl 1 rfl) ?_
      refine lv_aload_n hx hb dX7_template_23 rfl (lv_at hl 0 rfl) ?_
      refine gf_X7_25 C h (hL 0 rfl) rfl (k2 := 6) rfl dX7_template_24 ?_
      refine x_alenq C h (hL 6 rfl) (Or.inr ⟨rfl, rfl⟩) dX7_template_27 ?_
      refine lv_icmp_lt (tgt := 41) hx hb dX7_template_28 (by decide) (fun c28 => ?_) (fun c28 => ?_)
      · refine lv_aload_n hx hb dX7_template_41 rfl (lv_at hl 0 rfl) ?_
        refine gf_X7_10 C h (hL 0 rfl) rfl (k2 := 1) rfl dX7_template_42 ?_
        rw [← rdS_id st g] at h
        refine cl_X7_104 C h (hL 1 rfl) rfl (c_X5_readPage l D cy ad Ls st hL hg40 hG hgp np hnp (gi st 2 1) (gi st 3 1) (gi st 3 (300 + 4 * g)) (ga st (300 + 4 * g + 1)) (ga st (300 + 4 * g + 2)) (ga st (300 + 4 * g + 3)) n5 h5) (x_roomX (by omega)) ⟨Nat.le_of_ble_eq_true rfl, Nat.le_of_ble_eq_true rfl⟩ hl.1 (Nat.le_of_ble_eq_true rfl) dX7_template_45 (fun r2 u1 H locs hp h => ?_)
        obtain ⟨er, eu1⟩ := hp
        replace eu1 : u1 = rdU st g np n5 := eu1
        replace er : r2 = rpA np (rdR st g np n5) := er
        obtain ⟨rr, err⟩ : ∃ y, y = rpA np (rdR st g np n5) := ⟨_, rfl⟩
        rw [← err] at er
        refine x_topi er ?_; clear er r2
        have f3 : gi u1 3 0 = nI nF := by rw [eu1, rdU_3]; exact hcnt
        have fp : gp u1 1 1 = some (300 + 4 * g) := by rw [eu1]; exact hgp
        have fb : gb u1 = gb st := by rw [eu1]; rfl
        refine lv_istore_n (lv' := [(2, .int rr), (0, .ref (ad 0)), (1, .int x)]) hx hb dX7_template_48 rfl hl (by decide) rfl (fun ls hl => ?_)
        refine lv_iload_n hx hb dX7_template_49 rfl (lv_at hl 0 rfl) ?_
        refine lv_if_lt (tgt := 106) hx hb dX7_template_50 (by decide) (fun c50 => ?_) (fun c50 => ?_)
        · refine lv_iload_n hx hb dX7_template_106 rfl (lv_at hl 0 rfl) ?_
          exact x_iretG C hr hlocks h (Nat.le_of_ble_eq_true rfl) (Nat.le_of_ble_eq_true rfl) ⟨by rw [kTmpl, if_neg (fun q => q.elim c1 (fun q => q c9)), if_pos c28], err, Or.inl ⟨c50, by rw [eu1]⟩⟩ dX7_template_107
        · refine lv_aload_n hx hb dX7_template_53 rfl (lv_at hl 1 rfl) ?_
          refine gf_X7_25 C h (hL 0 rfl) rfl (k2 := 6) rfl dX7_template_54 ?_
          refine lv_iload_n hx hb dX7_template_57 rfl (lv_at hl 2 rfl) ?_
          obtain ⟨j, hj, ej⟩ : ∃ j, j < 6 ∧ x = nI j := x_inI c1 c28 (by decide)
          subst ej
          have hjF : j ≤ nF := (nI_leI (by omega) (by omega)).mp c9
          refine x_aldq C h (hL 6 rfl) (Or.inr ⟨rfl, rfl⟩) j hj rfl dX7_template_58 ?_
          rw [fb, hrowF j hj]
          by_cases cj : j < nF
          · rw [if_pos cj]; refine x_topref (q := ad (300 + 4 * fm j)) rfl ?_
            refine lv_astore_n (lv' := [(3, .ref (ad (300 + 4 * fm j))), (2, .int rr), (0, .ref (ad 0)), (1, .int (nI j))]) hx hb dX7_template_59 rfl hl (by decide) rfl (fun ls hl => ?_)
            refine lv_aload_n hx hb dX7_template_60 rfl (lv_at hl 2 rfl) ?_
            refine gf_X7_25 C h (hL 0 rfl) rfl (k2 := 6) rfl dX7_template_61 ?_
            refine lv_iload_n hx hb dX7_template_64 rfl (lv_at hl 3 rfl) ?_
            refine lv_aload_n hx hb dX7_template_65 rfl (lv_at hl 2 rfl) ?_
            refine gf_X7_10 C h (hL 0 rfl) rfl (k2 := 1) rfl dX7_template_66 ?_
            refine lv_aload_n hx hb dX7_template_69 rfl (lv_at hl 0 rfl) ?_
            refine lv_ifnonnull (tgt := 83) hx hb dX7_template_70 (by decide) ?_
            refine lv_aload_n hx hb dX7_template_83 rfl (lv_at hl 0 rfl) ?_
            refine ce_X7_109 C h (hL 1 rfl) rfl (c_X5_handOver l D cy ad Ls u1 hL (300 + 4 * g) (300 + 4 * fm j) fp) (x_roomX (by omega)) ⟨Nat.le_of_ble_eq_true rfl, Nat.le_of_ble_eq_true rfl⟩ hl.1 (Nat.le_of_ble_eq_true rfl) dX7_template_84 (fun r4 u3 H locs hp h => ?_)
            obtain ⟨er, eu3⟩ := hp; subst er; refine x_topref (q := ad (300 + 4 * g)) rfl ?_
            have e5 : gi u3 3 0 = nI nF := by rw [eu3]; exact f3
            refine x_astq C h (k := 6) (kv := 300 + 4 * g) (n := 6) (ci := 1) (hL 6 rfl) (show 300 + 4 * g ∈ Ls from hG 0 (by decide)) (Or.inr ⟨rfl, rfl, kd_f0 hg40⟩) j hj rfl dX7_template_87 (fun H locs u7 eu7 h => ?_)
            have e8 : gi u7 3 0 = nI nF := by rw [eu7]; exact e5
            refine lv_iload_n hx hb dX7_template_88 rfl (lv_at hl 3 rfl) ?_
            refine lv_aload_n hx hb dX7_template_89 rfl (lv_at hl 2 rfl) ?_
            refine gf_X7_94 C h (hL 0 rfl) rfl dX7_template_90 ?_
            refine x_topi e8 ?_
            refine x_icmpN_ne (tgt := 106) hx hb dX7_template_93 (by decide) (by omega) (by omega) (fun c93 => ?_) (fun c93 => ?_)
            · refine lv_iload_n hx hb dX7_template_106 rfl (lv_at hl 1 rfl) ?_
              exact x_iretG C hr hlocks h (Nat.le_of_ble_eq_true rfl) (Nat.le_of_ble_eq_true rfl) ⟨by rw [kTmpl, if_neg (fun q => q.elim c1 (fun q => q c9)), if_pos c28], err, Or.inr ⟨c50, j, rfl, Or.inl ⟨cj, by rw [eu7, eu3, eu1]⟩⟩⟩ dX7_template_107
            · exact absurd c93 (by omega)
          · rw [if_neg cj]; refine x_topnull rfl ?_
            refine lv_astore_nN (lv' := [(3, .null), (2, .int rr), (0, .ref (ad 0)), (1, .int (nI j))]) hx hb dX7_template_59 rfl hl (by decide) rfl (fun ls hl => ?_)
            refine lv_aload_n hx hb dX7_template_60 rfl (lv_at hl 2 rfl) ?_
            refine gf_X7_25 C h (hL 0 rfl) rfl (k2 := 6) rfl dX7_template_61 ?_
            refine lv_iload_n hx hb dX7_template_64 rfl (lv_at hl 3 rfl) ?_
            refine lv_aload_n hx hb dX7_template_65 rfl (lv_at hl 2 rfl) ?_
            refine gf_X7_10 C h (hL 0 rfl) rfl (k2 := 1) rfl dX7_template_66 ?_
            refine lv_aload_nN hx hb dX7_template_69 rfl (lv_at hl 0 rfl) ?_
            refine lv_ifnonnullN hx hb dX7_template_70 ?_
            have hcl9 : xCl u1 Ls := xCl_up hcl (fun f k => by rw [eu1]; rfl) (fun k i => Or.inl (by rw [fb]))
            refine x_newF C h (g := gN) hgN hcl9 hnew ⟨Nat.le_of_ble_eq_true rfl, Nat.le_of_ble_eq_true rfl⟩ ⟨Nat.le_of_ble_eq_true rfl, Nat.le_of_ble_eq_true rfl⟩ hl.1 (Nat.le_of_ble_eq_true rfl) dX7_template_73 dX7_template_76 dX7_template_77 (fun q q1 q2 q3 H locs h => ?_)
            have ea : ∀ k ∈ Ls, adF ad gN q q1 q2 q3 k = ad k := adF_ag hnew
            have eq9 : adF ad gN q q1 q2 q3 (300 + 4 * gN) = q := if_pos rfl
            have hL2 : ∀ k, xC k = true → k ∈ Ls ++ LsF gN := fun k hk => List.mem_append_left _ (hL k hk)
            have hGm : 300 + 4 * g ∈ Ls ++ LsF gN := List.mem_append_left _ (show 300 + 4 * g ∈ Ls from hG 0 (by decide))
            have ea0 := ea 0 (hL 0 rfl)
            have ea1 := ea 1 (hL 1 rfl)
            have ea6 := ea 6 (hL 6 rfl)
            have hl2 := hl
            rw [← ea0] at hl2
            rw [← ea1, ← ea6]
            generalize hgA : adF ad gN q q1 q2 q3 = ad at h ea eq9 hl2 ⊢
            generalize hgL : Ls ++ LsF gN = Ls at h hL2 hGm
            have hL : ∀ k, xC k = true → k ∈ Ls := hL2
            have hl : lv_has ls 4 [(3, .null), (2, .int rr), (0, .ref (ad 0)), (1, .int (nI j))] := hl2
            refine x_topref (q := ad (300 + 4 * gN)) (by rw [eq9]) ?_
            obtain ⟨v3, ev3⟩ : ∃ y, y = stF0 u1 gN := ⟨_, rfl⟩
            rw [← ev3] at h
            have f3b : gi v3 3 0 = nI nF := by rw [ev3]; exact (if_neg (by omega)).trans f3
            have fpb : gp v3 1 1 = some (300 + 4 * g) := by rw [ev3]; exact fp
            have fbb : gb v3 = gb st := by rw [ev3]; exact fb
            refine lv_goto (tgt := 84) hx hb dX7_template_80 (by decide) ?_
            refine ce_X7_109 C h (hL 1 rfl) rfl (c_X5_handOver l D cy ad Ls v3 hL (300 + 4 * g) (300 + 4 * gN) fpb) (x_roomX (by omega)) ⟨Nat.le_of_ble_eq_true rfl, Nat.le_of_ble_eq_true rfl⟩ hl.1 (Nat.le_of_ble_eq_true rfl) dX7_template_84 (fun r10 u9 H locs hp h => ?_)
            obtain ⟨er, eu9⟩ := hp; subst er; refine x_topref (q := ad (300 + 4 * g)) rfl ?_
            have e11 : gi u9 3 0 = nI nF := by rw [eu9]; exact f3b
            refine x_astq C h (k := 6) (kv := 300 + 4 * g) (n := 6) (ci := 1) (hL 6 rfl) hGm (Or.inr ⟨rfl, rfl, kd_f0 hg40⟩) j hj rfl dX7_template_87 (fun H locs u13 eu13 h => ?_)
            have e14 : gi u13 3 0 = nI nF := by rw [eu13]; exact e11
            refine lv_iload_n hx hb dX7_template_88 rfl (lv_at hl 3 rfl) ?_
            refine lv_aload_n hx hb dX7_template_89 rfl (lv_at hl 2 rfl) ?_
            refine gf_X7_94 C h (hL 0 rfl) rfl dX7_template_90 ?_
            refine x_topi e14 ?_
            refine x_icmpN_ne (tgt := 106) hx hb dX7_template_93 (by decide) (by omega) (by omega) (fun c93 => ?_) (fun c93 => ?_)
            · exact absurd (show j = nF by omega) c93
            · refine lv_aload_n hx hb dX7_template_96 rfl (lv_at hl 2 rfl) ?_
              refine lv_dup hx hb dX7_template_97 rfl ?_
              refine gf_X7_94 C h (hL 0 rfl) rfl dX7_template_98 ?_
              refine x_topi e14 ?_
              refine lv_iconst (v := nI 1) hx hb dX7_template_101 (by decide) ?_
              refine x_addN hx hb dX7_template_102 ?_
              refine pf_X7_94 C h (hL 0 rfl) rfl dX7_template_103 (fun H locs u15 eu15 h => ?_)
              have e17 : gi u15 3 0 = nI (nF + 1) := by rw [eu15, gi_si, if_pos ⟨rfl, rfl⟩]
              refine lv_iload_n hx hb dX7_template_106 rfl (lv_at hl 1 rfl) ?_
              exact x_iretG C hr hlocks h (Nat.le_of_ble_eq_true rfl) (Nat.le_of_ble_eq_true rfl) ⟨by rw [kTmpl, if_neg (fun q => q.elim c1 (fun q => q c9)), if_pos c28], err, Or.inr ⟨c50, j, rfl, Or.inr ⟨by omega, ad, ea, by rw [eu15, eu13, eu9, ev3, eu1]⟩⟩⟩ dX7_template_107
      · exact x_thr C h hl0 hT0 hlocks th_ISE (List.mem_of_getElem? (i := 3) rfl) hl.1 ⟨Nat.le_of_ble_eq_true rfl, Nat.le_of_ble_eq_true rfl⟩ ⟨Nat.le_of_ble_eq_true rfl, Nat.le_of_ble_eq_true rfl⟩ ⟨Nat.le_of_ble_eq_true rfl, Nat.le_of_ble_eq_true rfl⟩ rfl (exK_i 1 (by rw [kTmpl, if_neg (fun q => q.elim c1 (fun q => q c9)), if_neg c28]) rfl) dX7_template_31 dX7_template_34 dX7_template_35 dX7_template_37 dX7_template_40
    · exact x_thr C h hl0 hT0 hlocks th_IOB (List.mem_of_getElem? (i := 2) rfl) hl.1 ⟨Nat.le_of_ble_eq_true rfl, Nat.le_of_ble_eq_true rfl⟩ ⟨Nat.le_of_ble_eq_true rfl, Nat.le_of_ble_eq_true rfl⟩ ⟨Nat.le_of_ble_eq_true rfl, Nat.le_of_ble_eq_true rfl⟩ rfl (exK_i 0 (by rw [kTmpl, if_pos (Or.inr c9)]) rfl) dX7_template_12 dX7_template_15 dX7_template_16 dX7_template_18 dX7_template_21
