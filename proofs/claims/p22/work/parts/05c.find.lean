/-! ===== readPage, handOver; check.., find.. ===== -/
/-- what the reading of the page answers -/
def rpA (np : Nat) (x : Bool × RS) : Int32 := if x.1 = true ∧ x.2.1 = nI np then x.2.2.1 else -1 - x.2.1
theorem rdS_id (st : XS) (g : Nat) : rdS st g (gi st 2 1, gi st 3 1, gi st 3 (300 + 4 * g), ga st (300 + 4 * g + 1), ga st (300 + 4 * g + 2), ga st (300 + 4 * g + 3)) = st := by
  refine XS_ext (fun f k => ?_) (fun _ _ => rfl) (fun _ _ => rfl) (fun k => ?_) (fun _ => rfl)
  · rw [gi_rd]
    by_cases h1 : f = 2 ∧ k = 1
    · rw [if_pos h1, h1.1, h1.2]
    · rw [if_neg h1]
      by_cases h2 : f = 3 ∧ k = 1
      · rw [if_pos h2, h2.1, h2.2]
      · rw [if_neg h2]
        by_cases h3 : f = 3 ∧ k = 300 + 4 * g
        · rw [if_pos h3, h3.1, h3.2]
        · rw [if_neg h3]
  · rw [ga_rd]
    by_cases h3 : k = 300 + 4 * g + 3
    · rw [if_pos h3, h3]
    · rw [if_neg h3]
      by_cases h2 : k = 300 + 4 * g + 2
      · rw [if_pos h2, h2]
      · rw [if_neg h2]
        by_cases h1 : k = 300 + 4 * g + 1
        · rw [if_pos h1, h1]
        · rw [if_neg h1]
theorem x_inI {x : Int32} {n : Nat} (h0 : ¬ x < 0) (h1 : x < nI n) (hn : n < 2 ^ 31) : ∃ j : Nat, j < n ∧ x = nI j := by
  obtain ⟨j, hj, rfl⟩ := nI_of h0
  exact ⟨j, (nI_ltI hj hn).mp h1, rfl⟩
/-- out of 0 .. n - 1 -/
def bdI (n : Nat) (x : Int32) : Bool := decide (x < 0 ∨ ¬ x < nI n)
theorem bdI_l {n : Nat} {x : Int32} (h : x < 0) : bdI n x := decide_eq_true (Or.inl h)
theorem bdI_r {n : Nat} {x : Int32} (h : ¬ x < nI n) : bdI n x := decide_eq_true (Or.inr h)
def exK (k : Nat) (L : List String) (E : String) : Prop := ∃ j : Nat, k = j + 1 ∧ L[j]? = some E
theorem bdI_not {n : Nat} {x : Int32} (h0 : ¬ x < 0) (h1 : x < nI n) : ¬ bdI n x := fun q => (of_decide_eq_true q).elim h0 (fun z => z h1)
theorem bdI_in {n : Nat} {x : Int32} (h : ¬ bdI n x) (hn : n < 2 ^ 31) : ∃ j : Nat, j < n ∧ x = nI j := x_inI (fun q => h (bdI_l q)) (Decidable.not_not.mp fun q => h (bdI_r q)) hn
theorem bdI_nI {n j : Nat} (h : j < n) (hn : n < 2 ^ 31) : ¬ bdI n (nI j) := bdI_not (nI_pos (by omega)) (nI_lt h hn)
theorem i32_lt_le_trans {a b c : Int32} (h : a < b) (h2 : b ≤ c) : a < c := by rw [Int32.lt_iff_toInt_lt] at *; rw [Int32.le_iff_toInt_le] at h2; omega

set_option maxHeartbeats 4000000 in
set_option maxRecDepth 100000 in
theorem c_X5_readPage (l : Launch) (D : va_G) (cy : Nat → ClassId) (ad : Nat → Nat) (Ls : List Nat) (st : XS) (hL : ∀ k, xC k = true → k ∈ Ls) {g : Nat} (hg40 : g < 40) (hG : ∀ j, j < 4 → 300 + 4 * g + j ∈ Ls) (hgp : gp st 1 1 = some (300 + 4 * g)) (np : Nat) (hnp : gi st 1 2 = nI np) (a p9 z : Int32) (d f w : Nat → Int32) (n5 : Nat) (h5 : n5 = 5) : xMi l yX5_readPage cX5_readPage 2 (some .int) 26 D cy ad Ls (rdS st g (a, p9, z, d, f, w)) [.ref (ad 1)] (fun r u => r = rpA np (rParts (ga st 11) np n5 false false (nI 0, nI 0, nI 0, d, f, w)) ∧ u = si (rdS st g (rParts (ga st 11) np n5 false false (nI 0, nI 0, nI 0, d, f, w)).2) 1 2 (nI 0)) := by
  intro sz
  refine x_of sz (by decide +kernel) (Nat.le_of_ble_eq_true rfl) ?_
  intro p e s m args below meth c ls hx hb hr hlocks C hsz h hl
  have hl : lv_has ls 2 [(0, .ref (ad 1))] := hl
  obtain ⟨H, eH⟩ : ∃ z, z = s.heap := ⟨_, rfl⟩
  obtain ⟨locs, eL⟩ : ∃ z : List Loc, z = [] := ⟨_, rfl⟩
  rw [← eH, ← eL] at h
  rw [← eH, ← eL]
  clear eH eL
  obtain ⟨v, hv⟩ : ∃ v, v = rdS st g (a, p9, z, d, f, w) := ⟨_, rfl⟩
  rw [← hv] at h
  refine lv_aload_n hx hb dX5_readPage_0 rfl (lv_at hl 0 rfl) ?_
  refine gf_X5_21 C h (hL 1 rfl) rfl dX5_readPage_1 ?_
  refine x_topref (q := ad (300 + 4 * g)) (by rw [hv, gp_rd, hgp]; rfl) ?_
  refine lv_iconst (v := nI 0) hx hb dX5_readPage_4 (by decide) ?_
  refine pf_X5_25 C h (show 300 + 4 * g ∈ Ls from hG 0 (by decide)) (kd_f0 hg40) dX5_readPage_5 (fun H locs u1 eu1 h => ?_)
  rw [hv, rd_z] at eu1
  refine lv_aload_n hx hb dX5_readPage_8 rfl (lv_at hl 0 rfl) ?_
  refine lv_iconst (v := nI 0) hx hb dX5_readPage_9 (by decide) ?_
  refine pf_X5_29 C h (hL 1 rfl) rfl dX5_readPage_10 (fun H locs u2 eu2 h => ?_)
  rw [eu1, rd_a] at eu2
  refine lv_aload_n hx hb dX5_readPage_13 rfl (lv_at hl 0 rfl) ?_
  refine lv_iconst (v := nI 0) hx hb dX5_readPage_14 (by decide) ?_
  refine pf_X5_32 C h (hL 1 rfl) rfl dX5_readPage_15 (fun H locs u3 eu3 h => ?_)
  rw [eu2, rd_p] at eu3
  refine lv_aload_n hx hb dX5_readPage_18 rfl (lv_at hl 0 rfl) ?_
  refine lv_iconst (v := nI 0) hx hb dX5_readPage_19 (by decide) ?_
  refine lv_iconst (v := nI 0) hx hb dX5_readPage_20 (by decide) ?_
  refine lv_iconst (v := nI 0) hx hb dX5_readPage_21 (by decide) ?_
  rw [eu3] at h
  refine cl_X5_35 C h (hL 1 rfl) rfl (c_X5_readParts l D cy ad Ls st hL hg40 hG hgp np hnp n5 0 (by omega) (nI 0) (nI 0) (nI 0) d f w false false) (x_room (by omega)) ⟨Nat.zero_le _, Nat.zero_le _⟩ hl.1 (Nat.le_of_ble_eq_true rfl) dX5_readPage_22 (fun r5 u4 H locs hp h => ?_)
  obtain ⟨q6, a6, p6_, z6, d6_, f6, w6, e6_⟩ : ∃ y0 y1 y2 y3 y4 y5 y6, rParts (ga st 11) np n5 false false (nI 0, nI 0, nI 0, d, f, w) = (y0, y1, y2, y3, y4, y5, y6) := ⟨_, _, _, _, _, _, _, rfl⟩
  obtain ⟨er, eu⟩ := hp; rw [e6_] at er eu; replace er : r5 = bi q6 := er; replace eu : u4 = rdS st g (a6, p6_, z6, d6_, f6, w6) := eu
  refine x_topi er ?_; clear er r5
  have Eu4 := eu; clear eu
  refine x_ifb_eq (tgt := 46) hx hb dX5_readPage_25 (by decide) (fun c25 => ?_) (fun c25 => ?_)
  · refine lv_iconst (v := nI 0) hx hb dX5_readPage_46 (by decide) ?_
    refine lv_istore_n (lv' := [(1, .int (nI 0)), (0, .ref (ad 1))]) hx hb dX5_readPage_47 rfl hl (by decide) rfl (fun ls hl => ?_)
    refine lv_aload_n hx hb dX5_readPage_48 rfl (lv_at hl 1 rfl) ?_
    refine gf_X5_12 C h (hL 1 rfl) rfl (k2 := 2) rfl dX5_readPage_49 ?_
    refine lv_iconst (v := nI 0) hx hb dX5_readPage_52 (by decide) ?_
    refine pf_X5_39 C h (hL 2 rfl) rfl dX5_readPage_53 (fun H locs u7 eu7 h => ?_)
    have au7 : gi u7 3 1 = p6_ := by rw [eu7, gi_si, if_neg (by decide), Eu4]; exact gi_rd_p ..
    have bu7 : gi u7 2 1 = a6 := by rw [eu7, gi_si, if_neg (by decide), Eu4]; exact gi_rd_a ..
    rw [Eu4] at eu7
    refine lv_iload_n hx hb dX5_readPage_56 rfl (lv_at hl 0 rfl) ?_
    refine x_ifN_eq (tgt := 67) hx hb dX5_readPage_57 (by decide) (by decide) (fun _ => ?_) (fun z9 => absurd z9 (by decide))
    refine lv_iconst (v := (-1)) hx hb dX5_readPage_67 (by decide) ?_
    refine lv_aload_n hx hb dX5_readPage_68 rfl (lv_at hl 1 rfl) ?_
    refine gf_X5_29 C h (hL 1 rfl) rfl dX5_readPage_69 ?_
    refine x_topi bu7 ?_
    refine lv_isub hx hb dX5_readPage_72 ?_
    exact x_iret C hr hlocks h ⟨by rw [e6_, rpA]; exact (if_neg (fun q => by rw [c25] at q; exact absurd q.1 Bool.false_ne_true)).symm, by rw [e6_]; exact eu7⟩ dX5_readPage_73
  · refine lv_aload_n hx hb dX5_readPage_28 rfl (lv_at hl 0 rfl) ?_
    refine gf_X5_29 C h (hL 1 rfl) rfl dX5_readPage_29 ?_
    refine x_topi (y := a6) (by rw [Eu4]; exact gi_rd_a ..) ?_
    refine lv_aload_n hx hb dX5_readPage_32 rfl (lv_at hl 0 rfl) ?_
    refine gf_X5_12 C h (hL 1 rfl) rfl (k2 := 2) rfl dX5_readPage_33 ?_
    refine gf_X5_39 C h (hL 2 rfl) rfl dX5_readPage_36 ?_
    refine x_topi (y := nI np) (by rw [Eu4, gi_rd_o (by decide) (by decide) (by omega)]; exact hnp) ?_
    refine lv_icmp_ne (tgt := 46) hx hb dX5_readPage_39 (by decide) (fun c39 => ?_) (fun c39 => ?_)
    · refine lv_iconst (v := nI 0) hx hb dX5_readPage_46 (by decide) ?_
      refine lv_istore_n (lv' := [(1, .int (nI 0)), (0, .ref (ad 1))]) hx hb dX5_readPage_47 rfl hl (by decide) rfl (fun ls hl => ?_)
      refine lv_aload_n hx hb dX5_readPage_48 rfl (lv_at hl 1 rfl) ?_
      refine gf_X5_12 C h (hL 1 rfl) rfl (k2 := 2) rfl dX5_readPage_49 ?_
      refine lv_iconst (v := nI 0) hx hb dX5_readPage_52 (by decide) ?_
      refine pf_X5_39 C h (hL 2 rfl) rfl dX5_readPage_53 (fun H locs u8 eu8 h => ?_)
      have au8 : gi u8 3 1 = p6_ := by rw [eu8, gi_si, if_neg (by decide), Eu4]; exact gi_rd_p ..
      have bu8 : gi u8 2 1 = a6 := by rw [eu8, gi_si, if_neg (by decide), Eu4]; exact gi_rd_a ..
      rw [Eu4] at eu8
      refine lv_iload_n hx hb dX5_readPage_56 rfl (lv_at hl 0 rfl) ?_
      refine x_ifN_eq (tgt := 67) hx hb dX5_readPage_57 (by decide) (by decide) (fun _ => ?_) (fun z9 => absurd z9 (by decide))
      refine lv_iconst (v := (-1)) hx hb dX5_readPage_67 (by decide) ?_
      refine lv_aload_n hx hb dX5_readPage_68 rfl (lv_at hl 1 rfl) ?_
      refine gf_X5_29 C h (hL 1 rfl) rfl dX5_readPage_69 ?_
      refine x_topi bu8 ?_
      refine lv_isub hx hb dX5_readPage_72 ?_
      exact x_iret C hr hlocks h ⟨by rw [e6_, rpA]; exact (if_neg (fun q => c39 q.2)).symm, by rw [e6_]; exact eu8⟩ dX5_readPage_73
    · refine lv_iconst (v := nI 1) hx hb dX5_readPage_42 (by decide) ?_
      refine lv_goto (tgt := 47) hx hb dX5_readPage_43 (by decide) ?_
      refine lv_istore_n (lv' := [(1, .int (nI 1)), (0, .ref (ad 1))]) hx hb dX5_readPage_47 rfl hl (by decide) rfl (fun ls hl => ?_)
      refine lv_aload_n hx hb dX5_readPage_48 rfl (lv_at hl 1 rfl) ?_
      refine gf_X5_12 C h (hL 1 rfl) rfl (k2 := 2) rfl dX5_readPage_49 ?_
      refine lv_iconst (v := nI 0) hx hb dX5_readPage_52 (by decide) ?_
      refine pf_X5_39 C h (hL 2 rfl) rfl dX5_readPage_53 (fun H locs u9 eu9 h => ?_)
      have au9 : gi u9 3 1 = p6_ := by rw [eu9, gi_si, if_neg (by decide), Eu4]; exact gi_rd_p ..
      have bu9 : gi u9 2 1 = a6 := by rw [eu9, gi_si, if_neg (by decide), Eu4]; exact gi_rd_a ..
      rw [Eu4] at eu9
      refine lv_iload_n hx hb dX5_readPage_56 rfl (lv_at hl 0 rfl) ?_
      refine x_ifN_eq (tgt := 67) hx hb dX5_readPage_57 (by decide) (by decide) (fun z9 => absurd z9 (by decide)) (fun _ => ?_)
      refine lv_aload_n hx hb dX5_readPage_60 rfl (lv_at hl 1 rfl) ?_
      refine gf_X5_32 C h (hL 1 rfl) rfl dX5_readPage_61 ?_
      refine x_topi au9 ?_
      refine lv_goto (tgt := 73) hx hb dX5_readPage_64 (by decide) ?_
      exact x_iret C hr hlocks h ⟨by rw [e6_, rpA]; exact (if_pos ⟨c25, c39⟩).symm, by rw [e6_]; exact eu9⟩ dX5_readPage_73

set_option maxHeartbeats 4000000 in
set_option maxRecDepth 100000 in
theorem c_X5_handOver (l : Launch) (D : va_G) (cy : Nat → ClassId) (ad : Nat → Nat) (Ls : List Nat) (st : XS) (hL : ∀ k, xC k = true → k ∈ Ls) (q q2 : Nat) (hq : gp st 1 1 = some q) : xMe l yX5_handOver cX5_handOver 3 (some (.object "InvoiceSmith$Form")) 0 D cy ad Ls st [.ref (ad 1), .ref (ad q2)] (fun r u => r = some q ∧ u = sp st 1 1 (some q2)) := by
  intro sz
  refine x_of sz (by decide +kernel) (Nat.le_of_ble_eq_true rfl) ?_
  intro p e s m args below meth c ls hx hb hr hlocks C hsz h hl
  have hl : lv_has ls 3 [(0, .ref (ad 1)), (1, .ref (ad q2))] := hl
  obtain ⟨H, eH⟩ : ∃ z, z = s.heap := ⟨_, rfl⟩
  obtain ⟨locs, eL⟩ : ∃ z : List Loc, z = [] := ⟨_, rfl⟩
  rw [← eH, ← eL] at h
  rw [← eH, ← eL]
  clear eH eL
  refine lv_aload_n hx hb dX5_handOver_0 rfl (lv_at hl 0 rfl) ?_
  refine gf_X5_21 C h (hL 1 rfl) rfl dX5_handOver_1 ?_
  refine x_topref (by rw [hq]; rfl) ?_
  refine lv_astore_n (lv' := [(2, .ref (ad q)), (0, .ref (ad 1)), (1, .ref (ad q2))]) hx hb dX5_handOver_4 rfl hl (by decide) rfl (fun ls hl => ?_)
  refine lv_aload_n hx hb dX5_handOver_5 rfl (lv_at hl 1 rfl) ?_
  refine lv_aload_n hx hb dX5_handOver_6 rfl (lv_at hl 2 rfl) ?_
  refine pf_X5_21 C h (hL 1 rfl) rfl dX5_handOver_7 (fun H locs u1 eu1 h => ?_)
  refine lv_aload_n hx hb dX5_handOver_10 rfl (lv_at hl 0 rfl) ?_
  exact x_aret (r := (some q)) C hr rfl hlocks h ⟨rfl, eu1⟩ dX5_handOver_11

set_option maxHeartbeats 4000000 in
set_option maxRecDepth 100000 in
theorem c_X7_checkPlace (l : Launch) (hl0 : l.stackTraces = false) (D : va_G) (cy : Nat → ClassId) (ad : Nat → Nat) (Ls : List Nat) (st : XS) (x : Int32) : xXv l yX7_checkPlace cX7_checkPlace 1 6 1 6 D cy ad Ls st [.int x] (fun E => E = eIOB ∧ bdI 4 x) (fun u => u = st ∧ ¬ bdI 4 x) := by
  intro sz
  refine x_ofX sz (by decide +kernel) (Nat.le_of_ble_eq_true rfl) ?_
  intro p e s m args below meth c ls hx hb hr hlocks hT0 C hsz h hl
  have hl : lv_has ls 1 [(0, .int x)] := hl
  obtain ⟨H, eH⟩ : ∃ z, z = s.heap := ⟨_, rfl⟩
  obtain ⟨locs, eL⟩ : ∃ z : List Loc, z = [] := ⟨_, rfl⟩
  rw [← eH, ← eL] at h
  rw [← eH, ← eL]
  clear eH eL
  refine lv_iload_n hx hb dX7_checkPlace_0 rfl (lv_at hl 0 rfl) ?_
  refine lv_if_lt (tgt := 9) hx hb dX7_checkPlace_1 (by decide) (fun c1 => ?_) (fun c1 => ?_)
  · exact x_thrW C h hl0 hT0 hlocks th_IOB (List.mem_of_getElem? (i := 5) rfl) hl.1 ⟨Nat.le_of_ble_eq_true rfl, Nat.le_of_ble_eq_true rfl⟩ ⟨Nat.le_of_ble_eq_true rfl, Nat.le_of_ble_eq_true rfl⟩ ⟨Nat.le_of_ble_eq_true rfl, Nat.le_of_ble_eq_true rfl⟩ rfl ⟨rfl, bdI_l c1⟩ dX7_checkPlace_9 dX7_checkPlace_12 dX7_checkPlace_13 dX7_checkPlace_16 dX7_checkPlace_19
  · refine lv_iload_n hx hb dX7_checkPlace_4 rfl (lv_at hl 0 rfl) ?_
    refine lv_iconst (v := nI 4) hx hb dX7_checkPlace_5 (by decide) ?_
    refine lv_icmp_lt (tgt := 20) hx hb dX7_checkPlace_6 (by decide) (fun c6 => ?_) (fun c6 => ?_)
    · exact x_vretX C hr hlocks h (Nat.le_of_ble_eq_true rfl) (Nat.le_of_ble_eq_true rfl) ⟨rfl, bdI_not c1 c6⟩ dX7_checkPlace_20
    · exact x_thrW C h hl0 hT0 hlocks th_IOB (List.mem_of_getElem? (i := 5) rfl) hl.1 ⟨Nat.le_of_ble_eq_true rfl, Nat.le_of_ble_eq_true rfl⟩ ⟨Nat.le_of_ble_eq_true rfl, Nat.le_of_ble_eq_true rfl⟩ ⟨Nat.le_of_ble_eq_true rfl, Nat.le_of_ble_eq_true rfl⟩ rfl ⟨rfl, bdI_r c6⟩ dX7_checkPlace_9 dX7_checkPlace_12 dX7_checkPlace_13 dX7_checkPlace_16 dX7_checkPlace_19

set_option maxHeartbeats 4000000 in
set_option maxRecDepth 100000 in
theorem c_X7_checkKind (l : Launch) (hl0 : l.stackTraces = false) (D : va_G) (cy : Nat → ClassId) (ad : Nat → Nat) (Ls : List Nat) (st : XS) (x : Int32) : xXv l yX7_checkKind cX7_checkKind 1 6 1 6 D cy ad Ls st [.int x] (fun E => E = eIOB ∧ bdI 4 x) (fun u => u = st ∧ ¬ bdI 4 x) := by
  intro sz
  refine x_ofX sz (by decide +kernel) (Nat.le_of_ble_eq_true rfl) ?_
  intro p e s m args below meth c ls hx hb hr hlocks hT0 C hsz h hl
  have hl : lv_has ls 1 [(0, .int x)] := hl
  obtain ⟨H, eH⟩ : ∃ z, z = s.heap := ⟨_, rfl⟩
  obtain ⟨locs, eL⟩ : ∃ z : List Loc, z = [] := ⟨_, rfl⟩
  rw [← eH, ← eL] at h
  rw [← eH, ← eL]
  clear eH eL
  refine lv_iload_n hx hb dX7_checkKind_0 rfl (lv_at hl 0 rfl) ?_
  refine lv_if_lt (tgt := 9) hx hb dX7_checkKind_1 (by decide) (fun c1 => ?_) (fun c1 => ?_)
  · exact x_thrW C h hl0 hT0 hlocks th_IOB (List.mem_of_getElem? (i := 6) rfl) hl.1 ⟨Nat.le_of_ble_eq_true rfl, Nat.le_of_ble_eq_true rfl⟩ ⟨Nat.le_of_ble_eq_true rfl, Nat.le_of_ble_eq_true rfl⟩ ⟨Nat.le_of_ble_eq_true rfl, Nat.le_of_ble_eq_true rfl⟩ rfl ⟨rfl, bdI_l c1⟩ dX7_checkKind_9 dX7_checkKind_12 dX7_checkKind_13 dX7_checkKind_16 dX7_checkKind_19
  · refine lv_iload_n hx hb dX7_checkKind_4 rfl (lv_at hl 0 rfl) ?_
    refine lv_iconst (v := nI 4) hx hb dX7_checkKind_5 (by decide) ?_
    refine lv_icmp_lt (tgt := 20) hx hb dX7_checkKind_6 (by decide) (fun c6 => ?_) (fun c6 => ?_)
    · exact x_vretX C hr hlocks h (Nat.le_of_ble_eq_true rfl) (Nat.le_of_ble_eq_true rfl) ⟨rfl, bdI_not c1 c6⟩ dX7_checkKind_20
    · exact x_thrW C h hl0 hT0 hlocks th_IOB (List.mem_of_getElem? (i := 6) rfl) hl.1 ⟨Nat.le_of_ble_eq_true rfl, Nat.le_of_ble_eq_true rfl⟩ ⟨Nat.le_of_ble_eq_true rfl, Nat.le_of_ble_eq_true rfl⟩ ⟨Nat.le_of_ble_eq_true rfl, Nat.le_of_ble_eq_true rfl⟩ rfl ⟨rfl, bdI_r c6⟩ dX7_checkKind_9 dX7_checkKind_12 dX7_checkKind_13 dX7_checkKind_16 dX7_checkKind_19

set_option maxHeartbeats 4000000 in
set_option maxRecDepth 100000 in
theorem c_X7_checkClient (l : Launch) (hl0 : l.stackTraces = false) (D : va_G) (cy : Nat → ClassId) (ad : Nat → Nat) (Ls : List Nat) (st : XS) (x : Int32) : xXv l yX7_checkClient cX7_checkClient 1 6 1 6 D cy ad Ls st [.int x] (fun E => E = eIOB ∧ bdI 10 x) (fun u => u = st ∧ ¬ bdI 10 x) := by
  intro sz
  refine x_ofX sz (by decide +kernel) (Nat.le_of_ble_eq_true rfl) ?_
  intro p e s m args below meth c ls hx hb hr hlocks hT0 C hsz h hl
  have hl : lv_has ls 1 [(0, .int x)] := hl
  obtain ⟨H, eH⟩ : ∃ z, z = s.heap := ⟨_, rfl⟩
  obtain ⟨locs, eL⟩ : ∃ z : List Loc, z = [] := ⟨_, rfl⟩
  rw [← eH, ← eL] at h
  rw [← eH, ← eL]
  clear eH eL
  refine lv_iload_n hx hb dX7_checkClient_0 rfl (lv_at hl 0 rfl) ?_
  refine lv_if_lt (tgt := 10) hx hb dX7_checkClient_1 (by decide) (fun c1 => ?_) (fun c1 => ?_)
  · exact x_thrW C h hl0 hT0 hlocks th_IOB (List.mem_of_getElem? (i := 11) rfl) hl.1 ⟨Nat.le_of_ble_eq_true rfl, Nat.le_of_ble_eq_true rfl⟩ ⟨Nat.le_of_ble_eq_true rfl, Nat.le_of_ble_eq_true rfl⟩ ⟨Nat.le_of_ble_eq_true rfl, Nat.le_of_ble_eq_true rfl⟩ rfl ⟨rfl, bdI_l c1⟩ dX7_checkClient_10 dX7_checkClient_13 dX7_checkClient_14 dX7_checkClient_17 dX7_checkClient_20
  · refine lv_iload_n hx hb dX7_checkClient_4 rfl (lv_at hl 0 rfl) ?_
    refine lv_bipush (v := nI 10) hx hb dX7_checkClient_5 (by decide) ?_
    refine lv_icmp_lt (tgt := 21) hx hb dX7_checkClient_7 (by decide) (fun c7 => ?_) (fun c7 => ?_)
    · exact x_vretX C hr hlocks h (Nat.le_of_ble_eq_true rfl) (Nat.le_of_ble_eq_true rfl) ⟨rfl, bdI_not c1 c7⟩ dX7_checkClient_21
    · exact x_thrW C h hl0 hT0 hlocks th_IOB (List.mem_of_getElem? (i := 11) rfl) hl.1 ⟨Nat.le_of_ble_eq_true rfl, Nat.le_of_ble_eq_true rfl⟩ ⟨Nat.le_of_ble_eq_true rfl, Nat.le_of_ble_eq_true rfl⟩ ⟨Nat.le_of_ble_eq_true rfl, Nat.le_of_ble_eq_true rfl⟩ rfl ⟨rfl, bdI_r c7⟩ dX7_checkClient_10 dX7_checkClient_13 dX7_checkClient_14 dX7_checkClient_17 dX7_checkClient_20

set_option maxHeartbeats 4000000 in
set_option maxRecDepth 100000 in
theorem c_X7_findBill (l : Launch) (hl0 : l.stackTraces = false) (D : va_G) (cy : Nat → ClassId) (ad : Nat → Nat) (Ls : List Nat) (st : XS) (hL : ∀ k, xC k = true → k ∈ Ls) (nB : Nat) (hmx : nB ≤ 30) (hrow : ∀ i, i < 30 → gb st 9 i = if i < nB then some (100 + 6 * i) else none) (x : Int32) : xXe l yX7_findBill cX7_findBill 3 (some (.object "InvoiceSmith$Bill")) 6 1 6 D cy ad Ls st [.ref (ad 0), .int x] (fun E => E = eIOB ∧ bdI nB x) (fun r u => u = st ∧ ∃ j : Nat, j < nB ∧ x = nI j ∧ r = some (100 + 6 * j)) := by
  intro sz
  refine x_ofX sz (by decide +kernel) (Nat.le_of_ble_eq_true rfl) ?_
  intro p e s m args below meth c ls hx hb hr hlocks hT0 C hsz h hl
  have hl : lv_has ls 3 [(0, .ref (ad 0)), (1, .int x)] := hl
  obtain ⟨H, eH⟩ : ∃ z, z = s.heap := ⟨_, rfl⟩
  obtain ⟨locs, eL⟩ : ∃ z : List Loc, z = [] := ⟨_, rfl⟩
  rw [← eH, ← eL] at h
  rw [← eH, ← eL]
  clear eH eL
  refine lv_iload_n hx hb dX7_findBill_0 rfl (lv_at hl 1 rfl) ?_
  refine lv_if_lt (tgt := 13) hx hb dX7_findBill_1 (by decide) (fun c1 => ?_) (fun c1 => ?_)
  · refine lv_null hx hb dX7_findBill_13 ?_
    refine lv_goto (tgt := 23) hx hb dX7_findBill_14 (by decide) ?_
    refine lv_astore_nN (lv' := [(2, .null), (0, .ref (ad 0)), (1, .int x)]) hx hb dX7_findBill_23 rfl hl (by decide) rfl (fun ls hl => ?_)
    refine lv_aload_nN hx hb dX7_findBill_24 rfl (lv_at hl 0 rfl) ?_
    refine lv_ifnonnullN hx hb dX7_findBill_25 ?_
    exact x_thrW C h hl0 hT0 hlocks th_IOB (List.mem_of_getElem? (i := 16) rfl) hl.1 ⟨Nat.le_of_ble_eq_true rfl, Nat.le_of_ble_eq_true rfl⟩ ⟨Nat.le_of_ble_eq_true rfl, Nat.le_of_ble_eq_true rfl⟩ ⟨Nat.le_of_ble_eq_true rfl, Nat.le_of_ble_eq_true rfl⟩ rfl ⟨rfl, bdI_l c1⟩ dX7_findBill_28 dX7_findBill_31 dX7_findBill_32 dX7_findBill_35 dX7_findBill_38
  · refine lv_iload_n hx hb dX7_findBill_4 rfl (lv_at hl 1 rfl) ?_
    refine lv_aload_n hx hb dX7_findBill_5 rfl (lv_at hl 0 rfl) ?_
    refine gf_X7_50 C h (hL 0 rfl) rfl (k2 := 9) rfl dX7_findBill_6 ?_
    refine x_alenq C h (hL 9 rfl) (Or.inl ⟨rfl, rfl⟩) dX7_findBill_9 ?_
    refine lv_icmp_lt (tgt := 17) hx hb dX7_findBill_10 (by decide) (fun c10 => ?_) (fun c10 => ?_)
    · refine lv_aload_n hx hb dX7_findBill_17 rfl (lv_at hl 0 rfl) ?_
      refine gf_X7_50 C h (hL 0 rfl) rfl (k2 := 9) rfl dX7_findBill_18 ?_
      refine lv_iload_n hx hb dX7_findBill_21 rfl (lv_at hl 1 rfl) ?_
      obtain ⟨j, hj, ej⟩ : ∃ j, j < 30 ∧ x = nI j := x_inI c1 c10 (by decide)
      refine x_aldq C h (hL 9 rfl) (Or.inl ⟨rfl, rfl⟩) j hj ej dX7_findBill_22 ?_
      rw [hrow j hj]
      by_cases cj : j < nB
      · rw [if_pos cj]; refine x_topref (q := ad (100 + 6 * j)) rfl ?_
        refine lv_astore_n (lv' := [(2, .ref (ad (100 + 6 * j))), (0, .ref (ad 0)), (1, .int x)]) hx hb dX7_findBill_23 rfl hl (by decide) rfl (fun ls hl => ?_)
        refine lv_aload_n hx hb dX7_findBill_24 rfl (lv_at hl 0 rfl) ?_
        refine lv_ifnonnull (tgt := 39) hx hb dX7_findBill_25 (by decide) ?_
        refine lv_aload_n hx hb dX7_findBill_39 rfl (lv_at hl 0 rfl) ?_
        exact x_aretX (r := (some (100 + 6 * j))) C hr rfl hlocks h (Nat.le_of_ble_eq_true rfl) (Nat.le_of_ble_eq_true rfl) ⟨rfl, j, cj, ej, rfl⟩ dX7_findBill_40
      · rw [if_neg cj]; refine x_topnull rfl ?_
        refine lv_astore_nN (lv' := [(2, .null), (0, .ref (ad 0)), (1, .int x)]) hx hb dX7_findBill_23 rfl hl (by decide) rfl (fun ls hl => ?_)
        refine lv_aload_nN hx hb dX7_findBill_24 rfl (lv_at hl 0 rfl) ?_
        refine lv_ifnonnullN hx hb dX7_findBill_25 ?_
        exact x_thrW C h hl0 hT0 hlocks th_IOB (List.mem_of_getElem? (i := 16) rfl) hl.1 ⟨Nat.le_of_ble_eq_true rfl, Nat.le_of_ble_eq_true rfl⟩ ⟨Nat.le_of_ble_eq_true rfl, Nat.le_of_ble_eq_true rfl⟩ ⟨Nat.le_of_ble_eq_true rfl, Nat.le_of_ble_eq_true rfl⟩ rfl ⟨rfl, bdI_r (fun q => cj ((nI_ltI (by omega) (by omega)).mp (by rw [ej] at q; exact q)))⟩ dX7_findBill_28 dX7_findBill_31 dX7_findBill_32 dX7_findBill_35 dX7_findBill_38
    · refine lv_null hx hb dX7_findBill_13 ?_
      refine lv_goto (tgt := 23) hx hb dX7_findBill_14 (by decide) ?_
      refine lv_astore_nN (lv' := [(2, .null), (0, .ref (ad 0)), (1, .int x)]) hx hb dX7_findBill_23 rfl hl (by decide) rfl (fun ls hl => ?_)
      refine lv_aload_nN hx hb dX7_findBill_24 rfl (lv_at hl 0 rfl) ?_
      refine lv_ifnonnullN hx hb dX7_findBill_25 ?_
      exact x_thrW C h hl0 hT0 hlocks th_IOB (List.mem_of_getElem? (i := 16) rfl) hl.1 ⟨Nat.le_of_ble_eq_true rfl, Nat.le_of_ble_eq_true rfl⟩ ⟨Nat.le_of_ble_eq_true rfl, Nat.le_of_ble_eq_true rfl⟩ ⟨Nat.le_of_ble_eq_true rfl, Nat.le_of_ble_eq_true rfl⟩ rfl ⟨rfl, bdI_r (fun q => c10 (i32_lt_le_trans q (nI_le hmx (by decide))))⟩ dX7_findBill_28 dX7_findBill_31 dX7_findBill_32 dX7_findBill_35 dX7_findBill_38

set_option maxHeartbeats 4000000 in
set_option maxRecDepth 100000 in
theorem c_X7_findForm (l : Launch) (hl0 : l.stackTraces = false) (D : va_G) (cy : Nat → ClassId) (ad : Nat → Nat) (Ls : List Nat) (st : XS) (hL : ∀ k, xC k = true → k ∈ Ls) (nF : Nat) (hmx : nF ≤ 6) (fm : Nat → Nat) (hrow : ∀ i, i < 6 → gb st 6 i = if i < nF then some (300 + 4 * fm i) else none) (x : Int32) : xXe l yX7_findForm cX7_findForm 3 (some (.object "InvoiceSmith$Form")) 6 1 6 D cy ad Ls st [.ref (ad 0), .int x] (fun E => E = eIOB ∧ bdI nF x) (fun r u => u = st ∧ ∃ j : Nat, j < nF ∧ x = nI j ∧ r = some (300 + 4 * fm j)) := by
  intro sz
  refine x_ofX sz (by decide +kernel) (Nat.le_of_ble_eq_true rfl) ?_
  intro p e s m args below meth c ls hx hb hr hlocks hT0 C hsz h hl
  have hl : lv_has ls 3 [(0, .ref (ad 0)), (1, .int x)] := hl
  obtain ⟨H, eH⟩ : ∃ z, z = s.heap := ⟨_, rfl⟩
  obtain ⟨locs, eL⟩ : ∃ z : List Loc, z = [] := ⟨_, rfl⟩
  rw [← eH, ← eL] at h
  rw [← eH, ← eL]
  clear eH eL
  refine lv_iload_n hx hb dX7_findForm_0 rfl (lv_at hl 1 rfl) ?_
  refine lv_if_lt (tgt := 13) hx hb dX7_findForm_1 (by decide) (fun c1 => ?_) (fun c1 => ?_)
  · refine lv_null hx hb dX7_findForm_13 ?_
    refine lv_goto (tgt := 23) hx hb dX7_findForm_14 (by decide) ?_
    refine lv_astore_nN (lv' := [(2, .null), (0, .ref (ad 0)), (1, .int x)]) hx hb dX7_findForm_23 rfl hl (by decide) rfl (fun ls hl => ?_)
    refine lv_aload_nN hx hb dX7_findForm_24 rfl (lv_at hl 0 rfl) ?_
    refine lv_ifnonnullN hx hb dX7_findForm_25 ?_
    exact x_thr C h hl0 hT0 hlocks th_IOB (List.mem_of_getElem? (i := 2) rfl) hl.1 ⟨Nat.le_of_ble_eq_true rfl, Nat.le_of_ble_eq_true rfl⟩ ⟨Nat.le_of_ble_eq_true rfl, Nat.le_of_ble_eq_true rfl⟩ ⟨Nat.le_of_ble_eq_true rfl, Nat.le_of_ble_eq_true rfl⟩ rfl ⟨rfl, bdI_l c1⟩ dX7_findForm_28 dX7_findForm_31 dX7_findForm_32 dX7_findForm_34 dX7_findForm_37
  · refine lv_iload_n hx hb dX7_findForm_4 rfl (lv_at hl 1 rfl) ?_
    refine lv_aload_n hx hb dX7_findForm_5 rfl (lv_at hl 0 rfl) ?_
    refine gf_X7_25 C h (hL 0 rfl) rfl (k2 := 6) rfl dX7_findForm_6 ?_
    refine x_alenq C h (hL 6 rfl) (Or.inr ⟨rfl, rfl⟩) dX7_findForm_9 ?_
    refine lv_icmp_lt (tgt := 17) hx hb dX7_findForm_10 (by decide) (fun c10 => ?_) (fun c10 => ?_)
    · refine lv_aload_n hx hb dX7_findForm_17 rfl (lv_at hl 0 rfl) ?_
      refine gf_X7_25 C h (hL 0 rfl) rfl (k2 := 6) rfl dX7_findForm_18 ?_
      refine lv_iload_n hx hb dX7_findForm_21 rfl (lv_at hl 1 rfl) ?_
      obtain ⟨j, hj, ej⟩ : ∃ j, j < 6 ∧ x = nI j := x_inI c1 c10 (by decide)
      refine x_aldq C h (hL 6 rfl) (Or.inr ⟨rfl, rfl⟩) j hj ej dX7_findForm_22 ?_
      rw [hrow j hj]
      by_cases cj : j < nF
      · rw [if_pos cj]; refine x_topref (q := ad (300 + 4 * fm j)) rfl ?_
        refine lv_astore_n (lv' := [(2, .ref (ad (300 + 4 * fm j))), (0, .ref (ad 0)), (1, .int x)]) hx hb dX7_findForm_23 rfl hl (by decide) rfl (fun ls hl => ?_)
        refine lv_aload_n hx hb dX7_findForm_24 rfl (lv_at hl 0 rfl) ?_
        refine lv_ifnonnull (tgt := 38) hx hb dX7_findForm_25 (by decide) ?_
        refine lv_aload_n hx hb dX7_findForm_38 rfl (lv_at hl 0 rfl) ?_
        exact x_aretX (r := (some (300 + 4 * fm j))) C hr rfl hlocks h (Nat.le_of_ble_eq_true rfl) (Nat.le_of_ble_eq_true rfl) ⟨rfl, j, cj, ej, rfl⟩ dX7_findForm_39
      · rw [if_neg cj]; refine x_topnull rfl ?_
        refine lv_astore_nN (lv' := [(2, .null), (0, .ref (ad 0)), (1, .int x)]) hx hb dX7_findForm_23 rfl hl (by decide) rfl (fun ls hl => ?_)
        refine lv_aload_nN hx hb dX7_findForm_24 rfl (lv_at hl 0 rfl) ?_
        refine lv_ifnonnullN hx hb dX7_findForm_25 ?_
        exact x_thr C h hl0 hT0 hlocks th_IOB (List.mem_of_getElem? (i := 2) rfl) hl.1 ⟨Nat.le_of_ble_eq_true rfl, Nat.le_of_ble_eq_true rfl⟩ ⟨Nat.le_of_ble_eq_true rfl, Nat.le_of_ble_eq_true rfl⟩ ⟨Nat.le_of_ble_eq_true rfl, Nat.le_of_ble_eq_true rfl⟩ rfl ⟨rfl, bdI_r (fun q => cj ((nI_ltI (by omega) (by omega)).mp (by rw [ej] at q; exact q)))⟩ dX7_findForm_28 dX7_findForm_31 dX7_findForm_32 dX7_findForm_34 dX7_findForm_37
    · refine lv_null hx hb dX7_findForm_13 ?_
      refine lv_goto (tgt := 23) hx hb dX7_findForm_14 (by decide) ?_
      refine lv_astore_nN (lv' := [(2, .null), (0, .ref (ad 0)), (1, .int x)]) hx hb dX7_findForm_23 rfl hl (by decide) rfl (fun ls hl => ?_)
      refine lv_aload_nN hx hb dX7_findForm_24 rfl (lv_at hl 0 rfl) ?_
      refine lv_ifnonnullN hx hb dX7_findForm_25 ?_
      exact x_thr C h hl0 hT0 hlocks th_IOB (List.mem_of_getElem? (i := 2) rfl) hl.1 ⟨Nat.le_of_ble_eq_true rfl, Nat.le_of_ble_eq_true rfl⟩ ⟨Nat.le_of_ble_eq_true rfl, Nat.le_of_ble_eq_true rfl⟩ ⟨Nat.le_of_ble_eq_true rfl, Nat.le_of_ble_eq_true rfl⟩ rfl ⟨rfl, bdI_r (fun q => c10 (i32_lt_le_trans q (nI_le hmx (by decide))))⟩ dX7_findForm_28 dX7_findForm_31 dX7_findForm_32 dX7_findForm_34 dX7_findForm_37
